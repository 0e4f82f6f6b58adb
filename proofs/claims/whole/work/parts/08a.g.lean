def fTe (a0 : Nat) (i : IV) : List Value := [.ref (a0), .int (i 1), .int (i 2), .int (i 3), .int (i 4), .int (i 5), .int (i 6)]
abbrev oTe (a0 : Nat) (i : IV) : va_E := .inr (10, fTe a0 i)
theorem gTe_0 (a0 : Nat) (i : IV) : (fTe a0 i)[0]? = some (.ref (a0)) := rfl
theorem gTe_1 (a0 : Nat) (i : IV) : (fTe a0 i)[1]? = some (.int (i 1)) := rfl
theorem sTe_1 (a0 : Nat) (i : IV) (x : Int32) : (fTe a0 i).set 1 (.int x) = fTe a0 (upd i 1 x) := rfl
theorem gTe_2 (a0 : Nat) (i : IV) : (fTe a0 i)[2]? = some (.int (i 2)) := rfl
theorem sTe_2 (a0 : Nat) (i : IV) (x : Int32) : (fTe a0 i).set 2 (.int x) = fTe a0 (upd i 2 x) := rfl
theorem gTe_3 (a0 : Nat) (i : IV) : (fTe a0 i)[3]? = some (.int (i 3)) := rfl
theorem sTe_3 (a0 : Nat) (i : IV) (x : Int32) : (fTe a0 i).set 3 (.int x) = fTe a0 (upd i 3 x) := rfl
theorem gTe_4 (a0 : Nat) (i : IV) : (fTe a0 i)[4]? = some (.int (i 4)) := rfl
theorem sTe_4 (a0 : Nat) (i : IV) (x : Int32) : (fTe a0 i).set 4 (.int x) = fTe a0 (upd i 4 x) := rfl
theorem gTe_5 (a0 : Nat) (i : IV) : (fTe a0 i)[5]? = some (.int (i 5)) := rfl
theorem sTe_5 (a0 : Nat) (i : IV) (x : Int32) : (fTe a0 i).set 5 (.int x) = fTe a0 (upd i 5 x) := rfl
theorem gTe_6 (a0 : Nat) (i : IV) : (fTe a0 i)[6]? = some (.int (i 6)) := rfl
theorem sTe_6 (a0 : Nat) (i : IV) (x : Int32) : (fTe a0 i).set 6 (.int x) = fTe a0 (upd i 6 x) := rfl
theorem fkTe : FKt 10 RX10 TX10 7 tyX10 := ⟨rfl, inX10, tyX10_ok, nmX10⟩
def fHe  (i : IV) : List Value := [.int (i 0), .int (i 1), .int (i 2)]
abbrev oHe  (i : IV) : va_E := .inr (2, fHe i)
theorem gHe_0  (i : IV) : (fHe i)[0]? = some (.int (i 0)) := rfl
theorem sHe_0  (i : IV) (x : Int32) : (fHe i).set 0 (.int x) = fHe (upd i 0 x) := rfl
theorem gHe_1  (i : IV) : (fHe i)[1]? = some (.int (i 1)) := rfl
theorem sHe_1  (i : IV) (x : Int32) : (fHe i).set 1 (.int x) = fHe (upd i 1 x) := rfl
theorem gHe_2  (i : IV) : (fHe i)[2]? = some (.int (i 2)) := rfl
theorem sHe_2  (i : IV) (x : Int32) : (fHe i).set 2 (.int x) = fHe (upd i 2 x) := rfl
theorem fkHe : FKt 2 RX2 TX2 3 tyX2 := ⟨rfl, inX2, tyX2_ok, nmX2⟩
def fPa (a3 : Nat) (a4 : Nat) (a6 : Nat) (a7 : Nat) (i : IV) : List Value := [.int (i 0), .int (i 1), .int (i 2), .ref (a3), .ref (a4), .int (i 5), .ref (a6), .ref (a7), .int (i 8), .int (i 9), .int (i 10), .int (i 11), .int (i 12), .int (i 13), .int (i 14), .int (i 15), .int (i 16), .int (i 17)]
abbrev oPa (a3 : Nat) (a4 : Nat) (a6 : Nat) (a7 : Nat) (i : IV) : va_E := .inr (3, fPa a3 a4 a6 a7 i)
theorem gPa_0 (a3 : Nat) (a4 : Nat) (a6 : Nat) (a7 : Nat) (i : IV) : (fPa a3 a4 a6 a7 i)[0]? = some (.int (i 0)) := rfl
theorem sPa_0 (a3 : Nat) (a4 : Nat) (a6 : Nat) (a7 : Nat) (i : IV) (x : Int32) : (fPa a3 a4 a6 a7 i).set 0 (.int x) = fPa a3 a4 a6 a7 (upd i 0 x) := rfl
theorem gPa_1 (a3 : Nat) (a4 : Nat) (a6 : Nat) (a7 : Nat) (i : IV) : (fPa a3 a4 a6 a7 i)[1]? = some (.int (i 1)) := rfl
theorem sPa_1 (a3 : Nat) (a4 : Nat) (a6 : Nat) (a7 : Nat) (i : IV) (x : Int32) : (fPa a3 a4 a6 a7 i).set 1 (.int x) = fPa a3 a4 a6 a7 (upd i 1 x) := rfl
theorem gPa_2 (a3 : Nat) (a4 : Nat) (a6 : Nat) (a7 : Nat) (i : IV) : (fPa a3 a4 a6 a7 i)[2]? = some (.int (i 2)) := rfl
theorem sPa_2 (a3 : Nat) (a4 : Nat) (a6 : Nat) (a7 : Nat) (i : IV) (x : Int32) : (fPa a3 a4 a6 a7 i).set 2 (.int x) = fPa a3 a4 a6 a7 (upd i 2 x) := rfl
theorem gPa_3 (a3 : Nat) (a4 : Nat) (a6 : Nat) (a7 : Nat) (i : IV) : (fPa a3 a4 a6 a7 i)[3]? = some (.ref (a3)) := rfl
theorem gPa_4 (a3 : Nat) (a4 : Nat) (a6 : Nat) (a7 : Nat) (i : IV) : (fPa a3 a4 a6 a7 i)[4]? = some (.ref (a4)) := rfl
theorem gPa_5 (a3 : Nat) (a4 : Nat) (a6 : Nat) (a7 : Nat) (i : IV) : (fPa a3 a4 a6 a7 i)[5]? = some (.int (i 5)) := rfl
theorem sPa_5 (a3 : Nat) (a4 : Nat) (a6 : Nat) (a7 : Nat) (i : IV) (x : Int32) : (fPa a3 a4 a6 a7 i).set 5 (.int x) = fPa a3 a4 a6 a7 (upd i 5 x) := rfl
theorem gPa_6 (a3 : Nat) (a4 : Nat) (a6 : Nat) (a7 : Nat) (i : IV) : (fPa a3 a4 a6 a7 i)[6]? = some (.ref (a6)) := rfl
theorem gPa_7 (a3 : Nat) (a4 : Nat) (a6 : Nat) (a7 : Nat) (i : IV) : (fPa a3 a4 a6 a7 i)[7]? = some (.ref (a7)) := rfl
theorem gPa_8 (a3 : Nat) (a4 : Nat) (a6 : Nat) (a7 : Nat) (i : IV) : (fPa a3 a4 a6 a7 i)[8]? = some (.int (i 8)) := rfl
theorem sPa_8 (a3 : Nat) (a4 : Nat) (a6 : Nat) (a7 : Nat) (i : IV) (x : Int32) : (fPa a3 a4 a6 a7 i).set 8 (.int x) = fPa a3 a4 a6 a7 (upd i 8 x) := rfl
theorem gPa_9 (a3 : Nat) (a4 : Nat) (a6 : Nat) (a7 : Nat) (i : IV) : (fPa a3 a4 a6 a7 i)[9]? = some (.int (i 9)) := rfl
theorem sPa_9 (a3 : Nat) (a4 : Nat) (a6 : Nat) (a7 : Nat) (i : IV) (x : Int32) : (fPa a3 a4 a6 a7 i).set 9 (.int x) = fPa a3 a4 a6 a7 (upd i 9 x) := rfl
theorem gPa_10 (a3 : Nat) (a4 : Nat) (a6 : Nat) (a7 : Nat) (i : IV) : (fPa a3 a4 a6 a7 i)[10]? = some (.int (i 10)) := rfl
theorem sPa_10 (a3 : Nat) (a4 : Nat) (a6 : Nat) (a7 : Nat) (i : IV) (x : Int32) : (fPa a3 a4 a6 a7 i).set 10 (.int x) = fPa a3 a4 a6 a7 (upd i 10 x) := rfl
theorem gPa_11 (a3 : Nat) (a4 : Nat) (a6 : Nat) (a7 : Nat) (i : IV) : (fPa a3 a4 a6 a7 i)[11]? = some (.int (i 11)) := rfl
theorem sPa_11 (a3 : Nat) (a4 : Nat) (a6 : Nat) (a7 : Nat) (i : IV) (x : Int32) : (fPa a3 a4 a6 a7 i).set 11 (.int x) = fPa a3 a4 a6 a7 (upd i 11 x) := rfl
theorem gPa_12 (a3 : Nat) (a4 : Nat) (a6 : Nat) (a7 : Nat) (i : IV) : (fPa a3 a4 a6 a7 i)[12]? = some (.int (i 12)) := rfl
theorem sPa_12 (a3 : Nat) (a4 : Nat) (a6 : Nat) (a7 : Nat) (i : IV) (x : Int32) : (fPa a3 a4 a6 a7 i).set 12 (.int x) = fPa a3 a4 a6 a7 (upd i 12 x) := rfl
theorem gPa_13 (a3 : Nat) (a4 : Nat) (a6 : Nat) (a7 : Nat) (i : IV) : (fPa a3 a4 a6 a7 i)[13]? = some (.int (i 13)) := rfl
theorem sPa_13 (a3 : Nat) (a4 : Nat) (a6 : Nat) (a7 : Nat) (i : IV) (x : Int32) : (fPa a3 a4 a6 a7 i).set 13 (.int x) = fPa a3 a4 a6 a7 (upd i 13 x) := rfl
theorem gPa_14 (a3 : Nat) (a4 : Nat) (a6 : Nat) (a7 : Nat) (i : IV) : (fPa a3 a4 a6 a7 i)[14]? = some (.int (i 14)) := rfl
theorem sPa_14 (a3 : Nat) (a4 : Nat) (a6 : Nat) (a7 : Nat) (i : IV) (x : Int32) : (fPa a3 a4 a6 a7 i).set 14 (.int x) = fPa a3 a4 a6 a7 (upd i 14 x) := rfl
theorem gPa_15 (a3 : Nat) (a4 : Nat) (a6 : Nat) (a7 : Nat) (i : IV) : (fPa a3 a4 a6 a7 i)[15]? = some (.int (i 15)) := rfl
theorem sPa_15 (a3 : Nat) (a4 : Nat) (a6 : Nat) (a7 : Nat) (i : IV) (x : Int32) : (fPa a3 a4 a6 a7 i).set 15 (.int x) = fPa a3 a4 a6 a7 (upd i 15 x) := rfl
theorem gPa_16 (a3 : Nat) (a4 : Nat) (a6 : Nat) (a7 : Nat) (i : IV) : (fPa a3 a4 a6 a7 i)[16]? = some (.int (i 16)) := rfl
theorem sPa_16 (a3 : Nat) (a4 : Nat) (a6 : Nat) (a7 : Nat) (i : IV) (x : Int32) : (fPa a3 a4 a6 a7 i).set 16 (.int x) = fPa a3 a4 a6 a7 (upd i 16 x) := rfl
theorem gPa_17 (a3 : Nat) (a4 : Nat) (a6 : Nat) (a7 : Nat) (i : IV) : (fPa a3 a4 a6 a7 i)[17]? = some (.int (i 17)) := rfl
theorem sPa_17 (a3 : Nat) (a4 : Nat) (a6 : Nat) (a7 : Nat) (i : IV) (x : Int32) : (fPa a3 a4 a6 a7 i).set 17 (.int x) = fPa a3 a4 a6 a7 (upd i 17 x) := rfl
theorem fkPa : FKt 3 RX3 TX3 18 tyX3 := ⟨rfl, inX3, tyX3_ok, nmX3⟩
def fCi (a0 : Nat) (i : IV) (l : LV) : List Value := [.ref (a0), .int (i 1), .int (i 2), .int (i 3), .int (i 4), .int (i 5), .int (i 6), .int (i 7), .int (i 8), .int (i 9), .int (i 10), .int (i 11), .long (l 12), .int (i 13), .int (i 14), .int (i 15), .int (i 16), .int (i 17), .int (i 18)]
abbrev oCi (a0 : Nat) (i : IV) (l : LV) : va_E := .inr (1, fCi a0 i l)
theorem gCi_0 (a0 : Nat) (i : IV) (l : LV) : (fCi a0 i l)[0]? = some (.ref (a0)) := rfl
theorem gCi_1 (a0 : Nat) (i : IV) (l : LV) : (fCi a0 i l)[1]? = some (.int (i 1)) := rfl
theorem sCi_1 (a0 : Nat) (i : IV) (l : LV) (x : Int32) : (fCi a0 i l).set 1 (.int x) = fCi a0 (upd i 1 x) l := rfl
theorem gCi_2 (a0 : Nat) (i : IV) (l : LV) : (fCi a0 i l)[2]? = some (.int (i 2)) := rfl
theorem sCi_2 (a0 : Nat) (i : IV) (l : LV) (x : Int32) : (fCi a0 i l).set 2 (.int x) = fCi a0 (upd i 2 x) l := rfl
theorem gCi_3 (a0 : Nat) (i : IV) (l : LV) : (fCi a0 i l)[3]? = some (.int (i 3)) := rfl
theorem sCi_3 (a0 : Nat) (i : IV) (l : LV) (x : Int32) : (fCi a0 i l).set 3 (.int x) = fCi a0 (upd i 3 x) l := rfl
theorem gCi_4 (a0 : Nat) (i : IV) (l : LV) : (fCi a0 i l)[4]? = some (.int (i 4)) := rfl
theorem sCi_4 (a0 : Nat) (i : IV) (l : LV) (x : Int32) : (fCi a0 i l).set 4 (.int x) = fCi a0 (upd i 4 x) l := rfl
theorem gCi_5 (a0 : Nat) (i : IV) (l : LV) : (fCi a0 i l)[5]? = some (.int (i 5)) := rfl
theorem sCi_5 (a0 : Nat) (i : IV) (l : LV) (x : Int32) : (fCi a0 i l).set 5 (.int x) = fCi a0 (upd i 5 x) l := rfl
theorem gCi_6 (a0 : Nat) (i : IV) (l : LV) : (fCi a0 i l)[6]? = some (.int (i 6)) := rfl
theorem sCi_6 (a0 : Nat) (i : IV) (l : LV) (x : Int32) : (fCi a0 i l).set 6 (.int x) = fCi a0 (upd i 6 x) l := rfl
theorem gCi_7 (a0 : Nat) (i : IV) (l : LV) : (fCi a0 i l)[7]? = some (.int (i 7)) := rfl
theorem sCi_7 (a0 : Nat) (i : IV) (l : LV) (x : Int32) : (fCi a0 i l).set 7 (.int x) = fCi a0 (upd i 7 x) l := rfl
theorem gCi_8 (a0 : Nat) (i : IV) (l : LV) : (fCi a0 i l)[8]? = some (.int (i 8)) := rfl
theorem sCi_8 (a0 : Nat) (i : IV) (l : LV) (x : Int32) : (fCi a0 i l).set 8 (.int x) = fCi a0 (upd i 8 x) l := rfl
theorem gCi_9 (a0 : Nat) (i : IV) (l : LV) : (fCi a0 i l)[9]? = some (.int (i 9)) := rfl
theorem sCi_9 (a0 : Nat) (i : IV) (l : LV) (x : Int32) : (fCi a0 i l).set 9 (.int x) = fCi a0 (upd i 9 x) l := rfl
theorem gCi_10 (a0 : Nat) (i : IV) (l : LV) : (fCi a0 i l)[10]? = some (.int (i 10)) := rfl
theorem sCi_10 (a0 : Nat) (i : IV) (l : LV) (x : Int32) : (fCi a0 i l).set 10 (.int x) = fCi a0 (upd i 10 x) l := rfl
theorem gCi_11 (a0 : Nat) (i : IV) (l : LV) : (fCi a0 i l)[11]? = some (.int (i 11)) := rfl
theorem sCi_11 (a0 : Nat) (i : IV) (l : LV) (x : Int32) : (fCi a0 i l).set 11 (.int x) = fCi a0 (upd i 11 x) l := rfl
theorem gCi_12 (a0 : Nat) (i : IV) (l : LV) : (fCi a0 i l)[12]? = some (.long (l 12)) := rfl
theorem sCi_12 (a0 : Nat) (i : IV) (l : LV) (x : Int64) : (fCi a0 i l).set 12 (.long x) = fCi a0 i (vp_updL l 12 x) := rfl
theorem gCi_13 (a0 : Nat) (i : IV) (l : LV) : (fCi a0 i l)[13]? = some (.int (i 13)) := rfl
theorem sCi_13 (a0 : Nat) (i : IV) (l : LV) (x : Int32) : (fCi a0 i l).set 13 (.int x) = fCi a0 (upd i 13 x) l := rfl
theorem gCi_14 (a0 : Nat) (i : IV) (l : LV) : (fCi a0 i l)[14]? = some (.int (i 14)) := rfl
theorem sCi_14 (a0 : Nat) (i : IV) (l : LV) (x : Int32) : (fCi a0 i l).set 14 (.int x) = fCi a0 (upd i 14 x) l := rfl
theorem gCi_15 (a0 : Nat) (i : IV) (l : LV) : (fCi a0 i l)[15]? = some (.int (i 15)) := rfl
theorem sCi_15 (a0 : Nat) (i : IV) (l : LV) (x : Int32) : (fCi a0 i l).set 15 (.int x) = fCi a0 (upd i 15 x) l := rfl
theorem gCi_16 (a0 : Nat) (i : IV) (l : LV) : (fCi a0 i l)[16]? = some (.int (i 16)) := rfl
theorem sCi_16 (a0 : Nat) (i : IV) (l : LV) (x : Int32) : (fCi a0 i l).set 16 (.int x) = fCi a0 (upd i 16 x) l := rfl
theorem gCi_17 (a0 : Nat) (i : IV) (l : LV) : (fCi a0 i l)[17]? = some (.int (i 17)) := rfl
theorem sCi_17 (a0 : Nat) (i : IV) (l : LV) (x : Int32) : (fCi a0 i l).set 17 (.int x) = fCi a0 (upd i 17 x) l := rfl
theorem gCi_18 (a0 : Nat) (i : IV) (l : LV) : (fCi a0 i l)[18]? = some (.int (i 18)) := rfl
theorem sCi_18 (a0 : Nat) (i : IV) (l : LV) (x : Int32) : (fCi a0 i l).set 18 (.int x) = fCi a0 (upd i 18 x) l := rfl
theorem fkCi : FKt 1 RX1 TX1 19 tyX1 := ⟨rfl, inX1, tyX1_ok, nmX1⟩
def fSu (a0 : Nat) (a1 : Nat) (i : IV) : List Value := [.ref (a0), .ref (a1), .int (i 2)]
abbrev oSu (a0 : Nat) (a1 : Nat) (i : IV) : va_E := .inr (9, fSu a0 a1 i)
theorem gSu_0 (a0 : Nat) (a1 : Nat) (i : IV) : (fSu a0 a1 i)[0]? = some (.ref (a0)) := rfl
theorem gSu_1 (a0 : Nat) (a1 : Nat) (i : IV) : (fSu a0 a1 i)[1]? = some (.ref (a1)) := rfl
theorem gSu_2 (a0 : Nat) (a1 : Nat) (i : IV) : (fSu a0 a1 i)[2]? = some (.int (i 2)) := rfl
theorem sSu_2 (a0 : Nat) (a1 : Nat) (i : IV) (x : Int32) : (fSu a0 a1 i).set 2 (.int x) = fSu a0 a1 (upd i 2 x) := rfl
theorem fkSu : FKt 9 RX9 TX9 3 tyX9 := ⟨rfl, inX9, tyX9_ok, nmX9⟩
def fPr (a0 : Nat) (a1 : Nat) (a2 : Nat) (a3 : Nat) (a4 : Nat) (a5 : Nat) (a6 : Nat) (i : IV) : List Value := [.ref (a0), .ref (a1), .ref (a2), .ref (a3), .ref (a4), .ref (a5), .ref (a6), .int (i 7), .int (i 8), .int (i 9)]
abbrev oPr (a0 : Nat) (a1 : Nat) (a2 : Nat) (a3 : Nat) (a4 : Nat) (a5 : Nat) (a6 : Nat) (i : IV) : va_E := .inr (4, fPr a0 a1 a2 a3 a4 a5 a6 i)
theorem gPr_0 (a0 : Nat) (a1 : Nat) (a2 : Nat) (a3 : Nat) (a4 : Nat) (a5 : Nat) (a6 : Nat) (i : IV) : (fPr a0 a1 a2 a3 a4 a5 a6 i)[0]? = some (.ref (a0)) := rfl
theorem gPr_1 (a0 : Nat) (a1 : Nat) (a2 : Nat) (a3 : Nat) (a4 : Nat) (a5 : Nat) (a6 : Nat) (i : IV) : (fPr a0 a1 a2 a3 a4 a5 a6 i)[1]? = some (.ref (a1)) := rfl
theorem gPr_2 (a0 : Nat) (a1 : Nat) (a2 : Nat) (a3 : Nat) (a4 : Nat) (a5 : Nat) (a6 : Nat) (i : IV) : (fPr a0 a1 a2 a3 a4 a5 a6 i)[2]? = some (.ref (a2)) := rfl
theorem gPr_3 (a0 : Nat) (a1 : Nat) (a2 : Nat) (a3 : Nat) (a4 : Nat) (a5 : Nat) (a6 : Nat) (i : IV) : (fPr a0 a1 a2 a3 a4 a5 a6 i)[3]? = some (.ref (a3)) := rfl
theorem gPr_4 (a0 : Nat) (a1 : Nat) (a2 : Nat) (a3 : Nat) (a4 : Nat) (a5 : Nat) (a6 : Nat) (i : IV) : (fPr a0 a1 a2 a3 a4 a5 a6 i)[4]? = some (.ref (a4)) := rfl
theorem gPr_5 (a0 : Nat) (a1 : Nat) (a2 : Nat) (a3 : Nat) (a4 : Nat) (a5 : Nat) (a6 : Nat) (i : IV) : (fPr a0 a1 a2 a3 a4 a5 a6 i)[5]? = some (.ref (a5)) := rfl
theorem gPr_6 (a0 : Nat) (a1 : Nat) (a2 : Nat) (a3 : Nat) (a4 : Nat) (a5 : Nat) (a6 : Nat) (i : IV) : (fPr a0 a1 a2 a3 a4 a5 a6 i)[6]? = some (.ref (a6)) := rfl
theorem gPr_7 (a0 : Nat) (a1 : Nat) (a2 : Nat) (a3 : Nat) (a4 : Nat) (a5 : Nat) (a6 : Nat) (i : IV) : (fPr a0 a1 a2 a3 a4 a5 a6 i)[7]? = some (.int (i 7)) := rfl
theorem sPr_7 (a0 : Nat) (a1 : Nat) (a2 : Nat) (a3 : Nat) (a4 : Nat) (a5 : Nat) (a6 : Nat) (i : IV) (x : Int32) : (fPr a0 a1 a2 a3 a4 a5 a6 i).set 7 (.int x) = fPr a0 a1 a2 a3 a4 a5 a6 (upd i 7 x) := rfl
theorem gPr_8 (a0 : Nat) (a1 : Nat) (a2 : Nat) (a3 : Nat) (a4 : Nat) (a5 : Nat) (a6 : Nat) (i : IV) : (fPr a0 a1 a2 a3 a4 a5 a6 i)[8]? = some (.int (i 8)) := rfl
theorem sPr_8 (a0 : Nat) (a1 : Nat) (a2 : Nat) (a3 : Nat) (a4 : Nat) (a5 : Nat) (a6 : Nat) (i : IV) (x : Int32) : (fPr a0 a1 a2 a3 a4 a5 a6 i).set 8 (.int x) = fPr a0 a1 a2 a3 a4 a5 a6 (upd i 8 x) := rfl
theorem gPr_9 (a0 : Nat) (a1 : Nat) (a2 : Nat) (a3 : Nat) (a4 : Nat) (a5 : Nat) (a6 : Nat) (i : IV) : (fPr a0 a1 a2 a3 a4 a5 a6 i)[9]? = some (.int (i 9)) := rfl
theorem sPr_9 (a0 : Nat) (a1 : Nat) (a2 : Nat) (a3 : Nat) (a4 : Nat) (a5 : Nat) (a6 : Nat) (i : IV) (x : Int32) : (fPr a0 a1 a2 a3 a4 a5 a6 i).set 9 (.int x) = fPr a0 a1 a2 a3 a4 a5 a6 (upd i 9 x) := rfl
theorem fkPr : FKt 4 RX4 TX4 10 tyX4 := ⟨rfl, inX4, tyX4_ok, nmX4⟩
def fSe (a0 : Nat) (a1 : Nat) : List Value := [.ref (a0), .ref (a1)]
abbrev oSe (a0 : Nat) (a1 : Nat) : va_E := .inr (8, fSe a0 a1)
theorem gSe_0 (a0 : Nat) (a1 : Nat) : (fSe a0 a1)[0]? = some (.ref (a0)) := rfl
theorem gSe_1 (a0 : Nat) (a1 : Nat) : (fSe a0 a1)[1]? = some (.ref (a1)) := rfl
theorem fkSe : FKt 8 RX8 TX8 2 tyX8 := ⟨rfl, inX8, tyX8_ok, nmX8⟩
abbrev wTe (g : GX) (qte : Nat) (qteb : Nat) (t : IV) (tb : IV) : va_W := [(qte, oTe qteb t), (qteb, aB g 600 tb)]
abbrev wHe (g : GX) (qhe : Nat) (hv : IV) : va_W := [(qhe, oHe hv)]
abbrev wHH (g : GX) (qhe : Nat) (qhf : Nat) (hv : IV) (kv : IV) : va_W := [(qhe, oHe hv), (qhf, oHe kv)]
abbrev wPa (g : GX) (qpa : Nat) (qpae : Nat) (qpar : Nat) (qpau : Nat) (qpab : Nat) (w0 : IV) (w1 : IV) (w2 : IV) (w3 : IV) (w4 : IV) : va_W := [(qpa, oPa qpae qpar qpau qpab w0), (qpae, aI g 4 w1), (qpar, aI g 5 w2), (qpau, oHe w3), (qpab, oHe w4)]
abbrev wPP (g : GX) (qpa : Nat) (qpae : Nat) (qpar : Nat) (qpau : Nat) (qpab : Nat) (qdp : Nat) (qdpe : Nat) (qdpr : Nat) (qdpu : Nat) (qdpb : Nat) (w0 : IV) (w1 : IV) (w2 : IV) (w3 : IV) (w4 : IV) (d0 : IV) (d1 : IV) (d2 : IV) (d3 : IV) (d4 : IV) : va_W := [(qpa, oPa qpae qpar qpau qpab w0), (qpae, aI g 4 w1), (qpar, aI g 5 w2), (qpau, oHe w3), (qpab, oHe w4), (qdp, oPa qdpe qdpr qdpu qdpb d0), (qdpe, aI g 4 d1), (qdpr, aI g 5 d2), (qdpu, oHe d3), (qdpb, oHe d4)]
abbrev wCi (g : GX) (qci : Nat) (qpa : Nat) (qpae : Nat) (qpar : Nat) (qpau : Nat) (qpab : Nat) (ca : IV) (cal : LV) (w0 : IV) (w1 : IV) (w2 : IV) (w3 : IV) (w4 : IV) : va_W := [(qci, oCi qpa ca cal), (qpa, oPa qpae qpar qpau qpab w0), (qpae, aI g 4 w1), (qpar, aI g 5 w2), (qpau, oHe w3), (qpab, oHe w4)]
abbrev wCC (g : GX) (qci : Nat) (qcj : Nat) (qpa : Nat) (qpae : Nat) (qpar : Nat) (qpau : Nat) (qpab : Nat) (ca : IV) (cal : LV) (ka : IV) (kal : LV) (w0 : IV) (w1 : IV) (w2 : IV) (w3 : IV) (w4 : IV) : va_W := [(qci, oCi qpa ca cal), (qcj, oCi qpa ka kal), (qpa, oPa qpae qpar qpau qpab w0), (qpae, aI g 4 w1), (qpar, aI g 5 w2), (qpau, oHe w3), (qpab, oHe w4)]
abbrev wSu (g : GX) (qsu : Nat) (qte : Nat) (qteb : Nat) (qdp : Nat) (qdpe : Nat) (qdpr : Nat) (qdpu : Nat) (qdpb : Nat) (su : IV) (t : IV) (tb : IV) (d0 : IV) (d1 : IV) (d2 : IV) (d3 : IV) (d4 : IV) : va_W := [(qsu, oSu qte qdp su), (qte, oTe qteb t), (qteb, aB g 600 tb), (qdp, oPa qdpe qdpr qdpu qdpb d0), (qdpe, aI g 4 d1), (qdpr, aI g 5 d2), (qdpu, oHe d3), (qdpb, oHe d4)]
abbrev wSe (g : GX) (qse : Nat) (qci : Nat) (qpa : Nat) (qpae : Nat) (qpar : Nat) (qpau : Nat) (qpab : Nat) (ca : IV) (cal : LV) (w0 : IV) (w1 : IV) (w2 : IV) (w3 : IV) (w4 : IV) : va_W := [(qse, oSe qci qpa), (qci, oCi qpa ca cal), (qpa, oPa qpae qpar qpau qpab w0), (qpae, aI g 4 w1), (qpar, aI g 5 w2), (qpau, oHe w3), (qpab, oHe w4)]
abbrev wPr (g : GX) (qpr : Nat) (qpro : Nat) (qprf : Nat) (qprs : Nat) (qprb : Nat) (qprn : Nat) (qprt : Nat) (qte : Nat) (qteb : Nat) (pi : IV) (po : IV) (pf : IV) (ps : IV) (pb : IV) (pn : IV) (pt : IV) (t : IV) (tb : IV) : va_W := [(qpr, oPr qte qpro qprf qprs qprb qprn qprt pi), (qpro, aI g 30 po), (qprf, aI g 30 pf), (qprs, aI g 30 ps), (qprb, aI g 30 pb), (qprn, aI g 2 pn), (qprt, aI g 2 pt), (qte, oTe qteb t), (qteb, aB g 600 tb)]
abbrev wA30 (g : GX) (qar : Nat) (ff : IV) : va_W := [(qar, aI g 30 ff)]
abbrev wA2 (g : GX) (qar : Nat) (ff : IV) : va_W := [(qar, aI g 2 ff)]
abbrev rm_Ci_survey : Room := { frames := 0, cells := 0, slots := 0, locals := 0 }
def HL_Ci_survey_92 (p : Program) (l : Launch) (e : Env) (s : State) (m : MethodId) (args : Array Value) (below : List Frame) (meth : Method) (c : Code) (g : GX) (qci : Nat) (qpa : Nat) (qpae : Nat) (qpar : Nat) (qpau : Nat) (qpab : Nat) (ws0 : va_W) (ca_4 : IV) (cal : LV) (w0 : IV) (w1 : IV) (w2 : IV) (w3 : IV) (w4 : IV) (sp : Int32 → IV) (ok : Int32 → Prop) : Prop := ∀ (t0p92 : Int32), ok t0p92 → ∀ z : IV, z = sp t0p92 → ∀ (H : Heap) (locs : List Loc) (ls : Array Slot), va_P g.1 vwCl (wCi g qci qpa qpae qpar qpau qpab ca_4 cal w0 w1 w2 w3 w4) H → va_D (inW ws0) (wCi g qci qpa qpae qpar qpau qpab ca_4 cal w0 w1 w2 w3 w4) → va_S (inW ws0) s.heap H locs → lv_has ls 6 [(0, .ref qci)] → W p l e rm_Ci_survey s m args below meth c H locs 0 0 (MQ below (CV g ws0 (fun u : IV => wCi g qci qpa qpae qpar qpau qpab u cal w0 w1 w2 w3 w4) z) args s 0 0 (inW ws0)) (F0 m 92 ls [.int t0p92])
def HL_Ci_survey_123 (p : Program) (l : Launch) (e : Env) (s : State) (m : MethodId) (args : Array Value) (below : List Frame) (meth : Method) (c : Code) (g : GX) (qci : Nat) (qpa : Nat) (qpae : Nat) (qpar : Nat) (qpau : Nat) (qpab : Nat) (ws0 : va_W) (ca_4 : IV) (cal : LV) (w0 : IV) (w1 : IV) (w2 : IV) (w3 : IV) (w4 : IV) (t0p92 : Int32) (sp : Int32 → IV) (ok : Int32 → Prop) : Prop := ∀ (t2p123 : Int32), ok t2p123 → ∀ z : IV, z = sp t2p123 → ∀ (H : Heap) (locs : List Loc) (ls : Array Slot), va_P g.1 vwCl (wCi g qci qpa qpae qpar qpau qpab ca_4 cal w0 w1 w2 w3 w4) H → va_D (inW ws0) (wCi g qci qpa qpae qpar qpau qpab ca_4 cal w0 w1 w2 w3 w4) → va_S (inW ws0) s.heap H locs → lv_has ls 6 [(0, .ref qci), (5, .int t0p92)] → W p l e rm_Ci_survey s m args below meth c H locs 0 0 (MQ below (CV g ws0 (fun u : IV => wCi g qci qpa qpae qpar qpau qpab u cal w0 w1 w2 w3 w4) z) args s 0 0 (inW ws0)) (F0 m 123 ls [.int t2p123, .int ((ca_4 15) + (w0 8)), .ref qci])
def HL_Ci_survey_148 (p : Program) (l : Launch) (e : Env) (s : State) (m : MethodId) (args : Array Value) (below : List Frame) (meth : Method) (c : Code) (g : GX) (qci : Nat) (qpa : Nat) (qpae : Nat) (qpar : Nat) (qpau : Nat) (qpab : Nat) (ws0 : va_W) (ca_7 : IV) (cal : LV) (w0 : IV) (w1 : IV) (w2 : IV) (w3 : IV) (w4 : IV) (sp : Int32 → IV) (ok : Int32 → Prop) : Prop := ∀ (t2p148 : Int32), ok t2p148 → ∀ z : IV, z = sp t2p148 → ∀ (H : Heap) (locs : List Loc) (ls : Array Slot), va_P g.1 vwCl (wCi g qci qpa qpae qpar qpau qpab ca_7 cal w0 w1 w2 w3 w4) H → va_D (inW ws0) (wCi g qci qpa qpae qpar qpau qpab ca_7 cal w0 w1 w2 w3 w4) → va_S (inW ws0) s.heap H locs → lv_has ls 6 [] → W p l e rm_Ci_survey s m args below meth c H locs 0 0 (MQ below (CV g ws0 (fun u : IV => wCi g qci qpa qpae qpar qpau qpab u cal w0 w1 w2 w3 w4) z) args s 0 0 (inW ws0)) (F0 m 148 ls [.int t2p148, .int (ca_7 16), .ref qci])
noncomputable def sp_Ci_survey_148 (ca_7 : IV)  (t2p148 : Int32) : IV := lett (upd ca_7 18 ((ca_7 16) + t2p148)) fun (ca_9 : IV) => ca_9
def ok_Ci_survey_148 (ca_7 : IV)   (t2p148 : Int32) : Prop := True
set_option maxRecDepth 100000 in
set_option maxHeartbeats 4000000 in
theorem k_Ci_survey_148 {p : Program} {l : Launch} {e : Env} {s : State} {m : MethodId} {args : Array Value} {below : List Frame} {meth : Method} {c : Code} {g : GX} {qci : Nat} {qpa : Nat} {qpae : Nat} {qpar : Nat} {qpau : Nat} {qpab : Nat} {ws0 : va_W} {ca_7 : IV} {cal : LV} {w0 : IV} {w1 : IV} {w2 : IV} {w3 : IV} {w4 : IV}  (C : Cx p s m args meth c (inW ws0) g "DecadeBridge$Circuit" b_Ci_survey none 6)  : HL_Ci_survey_148 p l e s m args below meth c g qci qpa qpae qpar qpau qpab ws0 ca_7 cal w0 w1 w2 w3 w4 (sp_Ci_survey_148 ca_7 ) (ok_Ci_survey_148 ca_7  ) := by
  intro t2p148 hok z hz H locs ls hP hD hS hl
  obtain ⟨hx, hb, hr, hml, hown, hlk, hts, hK, hZo, hZ⟩ := id C
  unfold sp_Ci_survey_148 at hz
  refine lv_iadd hx hb d_Ci_survey_148 ?_
  refine pfI C hP hD hS 0 18 fkCi rfl (by decide) rfl qf_Ci_118 rfl rfl rfl (Nat.le_of_ble_eq_true rfl) (ff := fun o => fCi qpa o cal) (sCi_18 _ _ _ _) d_Ci_survey_149 (fun ca_9 eca_9 H locs hP hD hS => ?_)
  have hP : va_P g.1 vwCl (wCi g qci qpa qpae qpar qpau qpab ca_9 cal w0 w1 w2 w3 w4) H := hP
  have hD : va_D (inW ws0) (wCi g qci qpa qpae qpar qpau qpab ca_9 cal w0 w1 w2 w3 w4) := hD
  have hz := lett_z hz eca_9
  exact endV C hz hP hS d_Ci_survey_152
noncomputable def sp_Ci_survey_123 (ca_4 : IV) (w0 : IV) (t0p92 : Int32)  (t2p123 : Int32) : IV := lett (upd ca_4 17 (((ca_4 15) + (w0 8)) + t2p123)) fun (ca_7 : IV) => if t0p92 = 0 then (sp_Ci_survey_148 ca_7 (0 : Int32)) else (sp_Ci_survey_148 ca_7 (w0 9))
def ok_Ci_survey_123 (ca_4 : IV) (w0 : IV) (t0p92 : Int32)   (t2p123 : Int32) : Prop := True
set_option maxRecDepth 100000 in
set_option maxHeartbeats 4000000 in
theorem k_Ci_survey_123 {p : Program} {l : Launch} {e : Env} {s : State} {m : MethodId} {args : Array Value} {below : List Frame} {meth : Method} {c : Code} {g : GX} {qci : Nat} {qpa : Nat} {qpae : Nat} {qpar : Nat} {qpau : Nat} {qpab : Nat} {ws0 : va_W} {ca_4 : IV} {cal : LV} {w0 : IV} {w1 : IV} {w2 : IV} {w3 : IV} {w4 : IV} {t0p92 : Int32}  (C : Cx p s m args meth c (inW ws0) g "DecadeBridge$Circuit" b_Ci_survey none 6)  : HL_Ci_survey_123 p l e s m args below meth c g qci qpa qpae qpar qpau qpab ws0 ca_4 cal w0 w1 w2 w3 w4 t0p92 (sp_Ci_survey_123 ca_4 w0 t0p92 ) (ok_Ci_survey_123 ca_4 w0 t0p92  ) := by
  intro t2p123 hok z hz H locs ls hP hD hS hl
  obtain ⟨hx, hb, hr, hml, hown, hlk, hts, hK, hZo, hZ⟩ := id C
  unfold sp_Ci_survey_123 at hz
  refine lv_iadd hx hb d_Ci_survey_123 ?_
  refine pfI C hP hD hS 0 17 fkCi rfl (by decide) rfl qf_Ci_115 rfl rfl rfl (Nat.le_of_ble_eq_true rfl) (ff := fun o => fCi qpa o cal) (sCi_17 _ _ _ _) d_Ci_survey_124 (fun ca_7 eca_7 H locs hP hD hS => ?_)
  have hP : va_P g.1 vwCl (wCi g qci qpa qpae qpar qpau qpab ca_7 cal w0 w1 w2 w3 w4) H := hP
  have hD : va_D (inW ws0) (wCi g qci qpa qpae qpar qpau qpab ca_7 cal w0 w1 w2 w3 w4) := hD
  have hz := lett_z hz eca_7
  refine lv_aload_n hx hb d_Ci_survey_127 rfl (lv_at hl 0 rfl) ?_
  refine lv_aload_n hx hb d_Ci_survey_128 rfl (lv_at hl 0 rfl) ?_
  refine gf C hP 0 16 fkCi rfl (by decide) rfl qf_Ci_106 (gCi_16 _ _ _) d_Ci_survey_129 ?_
  refine lv_iload hx hb d_Ci_survey_132 (lv_at hl 1 rfl) ?_
  refine lv_if_eq (tgt := 147) hx hb d_Ci_survey_134 (by decide) (fun c8 => ?_) (fun c8 => ?_)
  · have hz := hz.trans (if_pos c8)
    refine lv_iconst (v := 0) hx hb d_Ci_survey_147 (by decide) ?_
    exact k_Ci_survey_148 C (0 : Int32) trivial _ hz _ _ ls hP hD hS (lv_sub hl [] rfl)
  · have hz := hz.trans (if_neg c8)
    refine lv_aload_n hx hb d_Ci_survey_137 rfl (lv_at hl 0 rfl) ?_
    refine gf C hP 0 0 fkCi rfl (by decide) rfl qf_Ci_7 (gCi_0 _ _ _) d_Ci_survey_138 ?_
    refine gf C hP 1 9 fkPa rfl (by decide) rfl qf_Ci_112 (gPa_9 _ _ _ _ _) d_Ci_survey_141 ?_
    refine lv_goto (tgt := 148) hx hb d_Ci_survey_144 (by decide) ?_
    exact k_Ci_survey_148 C (w0 9) trivial _ hz _ _ ls hP hD hS (lv_sub hl [] rfl)
noncomputable def sp_Ci_survey_92 (ca_4 : IV) (w0 : IV)  (t0p92 : Int32) : IV := if t0p92 = 0 then (sp_Ci_survey_123 ca_4 w0 t0p92 (w0 9)) else (sp_Ci_survey_123 ca_4 w0 t0p92 (0 : Int32))
def ok_Ci_survey_92 (ca_4 : IV) (w0 : IV)   (t0p92 : Int32) : Prop := True
set_option maxRecDepth 100000 in
set_option maxHeartbeats 4000000 in
theorem k_Ci_survey_92 {p : Program} {l : Launch} {e : Env} {s : State} {m : MethodId} {args : Array Value} {below : List Frame} {meth : Method} {c : Code} {g : GX} {qci : Nat} {qpa : Nat} {qpae : Nat} {qpar : Nat} {qpau : Nat} {qpab : Nat} {ws0 : va_W} {ca_4 : IV} {cal : LV} {w0 : IV} {w1 : IV} {w2 : IV} {w3 : IV} {w4 : IV}  (C : Cx p s m args meth c (inW ws0) g "DecadeBridge$Circuit" b_Ci_survey none 6)  : HL_Ci_survey_92 p l e s m args below meth c g qci qpa qpae qpar qpau qpab ws0 ca_4 cal w0 w1 w2 w3 w4 (sp_Ci_survey_92 ca_4 w0 ) (ok_Ci_survey_92 ca_4 w0  ) := by
  intro t0p92 hok z hz H locs ls hP hD hS hl
  obtain ⟨hx, hb, hr, hml, hown, hlk, hts, hK, hZo, hZ⟩ := id C
  unfold sp_Ci_survey_92 at hz
  refine lv_istore (lv' := [(5, .int t0p92), (0, .ref qci)]) hx hb d_Ci_survey_92 hl (by decide) rfl (fun ls hl => ?_)
  refine lv_aload_n hx hb d_Ci_survey_94 rfl (lv_at hl 1 rfl) ?_
  refine lv_aload_n hx hb d_Ci_survey_95 rfl (lv_at hl 1 rfl) ?_
  refine gf C hP 0 15 fkCi rfl (by decide) rfl qf_Ci_103 (gCi_15 _ _ _) d_Ci_survey_96 ?_
  refine lv_aload_n hx hb d_Ci_survey_99 rfl (lv_at hl 1 rfl) ?_
  refine gf C hP 0 0 fkCi rfl (by decide) rfl qf_Ci_7 (gCi_0 _ _ _) d_Ci_survey_100 ?_
  refine gf C hP 1 8 fkPa rfl (by decide) rfl qf_Ci_109 (gPa_8 _ _ _ _ _) d_Ci_survey_103 ?_
  refine lv_iadd hx hb d_Ci_survey_106 ?_
  refine lv_iload hx hb d_Ci_survey_107 (lv_at hl 0 rfl) ?_
  refine lv_if_eq (tgt := 116) hx hb d_Ci_survey_109 (by decide) (fun c6 => ?_) (fun c6 => ?_)
  · have hz := hz.trans (if_pos c6)
    refine lv_aload_n hx hb d_Ci_survey_116 rfl (lv_at hl 1 rfl) ?_
    refine gf C hP 0 0 fkCi rfl (by decide) rfl qf_Ci_7 (gCi_0 _ _ _) d_Ci_survey_117 ?_
    refine gf C hP 1 9 fkPa rfl (by decide) rfl qf_Ci_112 (gPa_9 _ _ _ _ _) d_Ci_survey_120 ?_
    exact k_Ci_survey_123 C (w0 9) trivial _ hz _ _ ls hP hD hS (lv_sub hl [1, 0] rfl)
  · have hz := hz.trans (if_neg c6)
    refine lv_iconst (v := 0) hx hb d_Ci_survey_112 (by decide) ?_
    refine lv_goto (tgt := 123) hx hb d_Ci_survey_113 (by decide) ?_
    exact k_Ci_survey_123 C (0 : Int32) trivial _ hz _ _ ls hP hD hS (lv_sub hl [1, 0] rfl)
noncomputable def sp_Ci_survey (ca : IV) (w0 : IV) (w3 : IV) (w4 : IV) : IV := lett ((1000000000 : Int64) + (((w3 0).toInt64) * ((ca 7).toInt64))) fun (v1 : Int64) => lett ((1000000000 : Int64) + (((w4 0).toInt64) * ((ca 8).toInt64))) fun (v2 : Int64) => lett (upd ca 15 (((((w0 5).toInt64) * v1) / (1000000000 : Int64)).toInt32)) fun (ca_3 : IV) => lett (upd ca_3 16 (((((ca_3 14).toInt64) * v2) / (1000000000 : Int64)).toInt32)) fun (ca_4 : IV) => if (ca_4 4) = (3 : Int32) then (sp_Ci_survey_92 ca_4 w0 (1 : Int32)) else (sp_Ci_survey_92 ca_4 w0 (0 : Int32))
set_option maxRecDepth 100000 in
set_option maxHeartbeats 4000000 in
theorem c_Ci_survey (l : Launch) (g : GX) (qci : Nat) (qpa : Nat) (qpae : Nat) (qpar : Nat) (qpau : Nat) (qpab : Nat) (ca : IV) (cal : LV) (w0 : IV) (w1 : IV) (w2 : IV) (w3 : IV) (w4 : IV)  : Met l y_Ci_survey (wsY y_Ci_survey b_Ci_survey 6 none) rm_Ci_survey (CP g [.ref qci] (wCi g qci qpa qpae qpar qpau qpab ca cal w0 w1 w2 w3 w4)) (CV g (wCi g qci qpa qpae qpar qpau qpab ca cal w0 w1 w2 w3 w4) (fun u : IV => wCi g qci qpa qpae qpar qpau qpab u cal w0 w1 w2 w3 w4) (sp_Ci_survey ca w0 w3 w4)) 0 0 (inW (wCi g qci qpa qpae qpar qpau qpab ca cal w0 w1 w2 w3 w4)) := by
  refine Met.ofW (cc := b_Ci_survey) (maxL := 6) (ret := none) pn_Ci rfl ?_
  intro p e s m args below meth c s₁ B hml hv
  obtain ⟨rfl, C, hP, hD, hS⟩ := enter "DecadeBridge$Circuit" rfl B hml hv
  obtain ⟨hx, hb, hr, hml, hown, hlk, hts, hK, hZo, hZ⟩ := id C
  refine entryW (lv := [(0, .ref qci)]) rfl (Nat.le_of_ble_eq_true rfl) (fun ls hl => ?_)
  obtain ⟨z, hz⟩ : ∃ z, z = sp_Ci_survey ca w0 w3 w4 := ⟨_, rfl⟩
  rw [← hz]
  unfold sp_Ci_survey at hz
  refine lv_ldc2 hx hb hown (hts _ qk_Ci_83) d_Ci_survey_0 ?_
  refine lv_aload_n hx hb d_Ci_survey_3 rfl (lv_at hl 0 rfl) ?_
  refine gf C hP 0 0 fkCi rfl (by decide) rfl qf_Ci_7 (gCi_0 _ _ _) d_Ci_survey_4 ?_
  refine gf C hP 1 6 fkPa rfl (by decide) rfl qf_Ci_88 (gPa_6 _ _ _ _ _) d_Ci_survey_7 ?_
  refine gf C hP 4 0 fkHe rfl (by decide) rfl qf_Ci_92 (gHe_0 _) d_Ci_survey_10 ?_
  refine lv_i2l hx hb d_Ci_survey_13 rfl ?_
  refine lv_aload_n hx hb d_Ci_survey_14 rfl (lv_at hl 0 rfl) ?_
  refine gf C hP 0 7 fkCi rfl (by decide) rfl qf_Ci_27 (gCi_7 _ _ _) d_Ci_survey_15 ?_
  refine lv_i2l hx hb d_Ci_survey_18 rfl ?_
  refine lv_lmul hx hb d_Ci_survey_19 ?_
  refine lv_ladd hx hb d_Ci_survey_20 ?_
  refine lv_topl (fun v1 ev1 => ?_)
  have hz := lett_z hz ev1
  refine lv_lstore_n (lv' := [(1, .long v1), (0, .ref qci)]) hx hb d_Ci_survey_21 rfl hl (by decide) rfl (fun ls hl => ?_)
  refine lv_ldc2 hx hb hown (hts _ qk_Ci_83) d_Ci_survey_22 ?_
  refine lv_aload_n hx hb d_Ci_survey_25 rfl (lv_at hl 1 rfl) ?_
  refine gf C hP 0 0 fkCi rfl (by decide) rfl qf_Ci_7 (gCi_0 _ _ _) d_Ci_survey_26 ?_
  refine gf C hP 1 7 fkPa rfl (by decide) rfl qf_Ci_97 (gPa_7 _ _ _ _ _) d_Ci_survey_29 ?_
  refine gf C hP 5 0 fkHe rfl (by decide) rfl qf_Ci_92 (gHe_0 _) d_Ci_survey_32 ?_
  refine lv_i2l hx hb d_Ci_survey_35 rfl ?_
  refine lv_aload_n hx hb d_Ci_survey_36 rfl (lv_at hl 1 rfl) ?_
  refine gf C hP 0 8 fkCi rfl (by decide) rfl qf_Ci_30 (gCi_8 _ _ _) d_Ci_survey_37 ?_
  refine lv_i2l hx hb d_Ci_survey_40 rfl ?_
  refine lv_lmul hx hb d_Ci_survey_41 ?_
  refine lv_ladd hx hb d_Ci_survey_42 ?_
  refine lv_topl (fun v2 ev2 => ?_)
  have hz := lett_z hz ev2
  refine lv_lstore_n (lv' := [(3, .long v2), (1, .long v1), (0, .ref qci)]) hx hb d_Ci_survey_43 rfl hl (by decide) rfl (fun ls hl => ?_)
  refine lv_aload_n hx hb d_Ci_survey_44 rfl (lv_at hl 2 rfl) ?_
  refine lv_aload_n hx hb d_Ci_survey_45 rfl (lv_at hl 2 rfl) ?_
  refine gf C hP 0 0 fkCi rfl (by decide) rfl qf_Ci_7 (gCi_0 _ _ _) d_Ci_survey_46 ?_
  refine gf C hP 1 5 fkPa rfl (by decide) rfl qf_Ci_100 (gPa_5 _ _ _ _ _) d_Ci_survey_49 ?_
  refine lv_i2l hx hb d_Ci_survey_52 rfl ?_
  refine lv_lload_n hx hb d_Ci_survey_53 rfl (lv_at hl 1 rfl) ?_
  refine lv_lmul hx hb d_Ci_survey_54 ?_
  refine lv_ldc2 hx hb hown (hts _ qk_Ci_83) d_Ci_survey_55 ?_
  refine lv_ldiv hx hb d_Ci_survey_58 (by decide) ?_
  refine lv_l2i hx hb d_Ci_survey_59 rfl ?_
  refine pfI C hP hD hS 0 15 fkCi rfl (by decide) rfl qf_Ci_103 rfl rfl rfl (Nat.le_of_ble_eq_true rfl) (ff := fun o => fCi qpa o cal) (sCi_15 _ _ _ _) d_Ci_survey_60 (fun ca_3 eca_3 H locs hP hD hS => ?_)
  have hP : va_P g.1 vwCl (wCi g qci qpa qpae qpar qpau qpab ca_3 cal w0 w1 w2 w3 w4) H := hP
  have hD : va_D (inW (wCi g qci qpa qpae qpar qpau qpab ca cal w0 w1 w2 w3 w4)) (wCi g qci qpa qpae qpar qpau qpab ca_3 cal w0 w1 w2 w3 w4) := hD
  have hz := lett_z hz eca_3
  refine lv_aload_n hx hb d_Ci_survey_63 rfl (lv_at hl 2 rfl) ?_
  refine lv_aload_n hx hb d_Ci_survey_64 rfl (lv_at hl 2 rfl) ?_
  refine gf C hP 0 14 fkCi rfl (by decide) rfl qf_Ci_73 (gCi_14 _ _ _) d_Ci_survey_65 ?_
  refine lv_i2l hx hb d_Ci_survey_68 rfl ?_
  refine lv_lload_n hx hb d_Ci_survey_69 rfl (lv_at hl 0 rfl) ?_
  refine lv_lmul hx hb d_Ci_survey_70 ?_
  refine lv_ldc2 hx hb hown (hts _ qk_Ci_83) d_Ci_survey_71 ?_
  refine lv_ldiv hx hb d_Ci_survey_74 (by decide) ?_
  refine lv_l2i hx hb d_Ci_survey_75 rfl ?_
  refine pfI C hP hD hS 0 16 fkCi rfl (by decide) rfl qf_Ci_106 rfl rfl rfl (Nat.le_of_ble_eq_true rfl) (ff := fun o => fCi qpa o cal) (sCi_16 _ _ _ _) d_Ci_survey_76 (fun ca_4 eca_4 H locs hP hD hS => ?_)
  have hP : va_P g.1 vwCl (wCi g qci qpa qpae qpar qpau qpab ca_4 cal w0 w1 w2 w3 w4) H := hP
  have hD : va_D (inW (wCi g qci qpa qpae qpar qpau qpab ca cal w0 w1 w2 w3 w4)) (wCi g qci qpa qpae qpar qpau qpab ca_4 cal w0 w1 w2 w3 w4) := hD
  have hz := lett_z hz eca_4
  refine lv_aload_n hx hb d_Ci_survey_79 rfl (lv_at hl 2 rfl) ?_
  refine gf C hP 0 4 fkCi rfl (by decide) rfl qf_Ci_50 (gCi_4 _ _ _) d_Ci_survey_80 ?_
  refine lv_iconst (v := 3) hx hb d_Ci_survey_83 (by decide) ?_
  refine lv_icmp_ne (tgt := 91) hx hb d_Ci_survey_84 (by decide) (fun c5 => ?_) (fun c5 => ?_)
  · have hz := hz.trans (if_neg c5)
    refine lv_iconst (v := 0) hx hb d_Ci_survey_91 (by decide) ?_
    exact k_Ci_survey_92 C (0 : Int32) trivial _ hz _ _ ls hP hD hS (lv_sub hl [2] rfl)
  · have hz := hz.trans (if_pos c5)
    refine lv_iconst (v := 1) hx hb d_Ci_survey_87 (by decide) ?_
    refine lv_goto (tgt := 92) hx hb d_Ci_survey_88 (by decide) ?_
    exact k_Ci_survey_92 C (1 : Int32) trivial _ hz _ _ ls hP hD hS (lv_sub hl [2] rfl)
abbrev rm_Ci_unknownShare : Room := { frames := 0, cells := 0, slots := 0, locals := 0 }
noncomputable def sp_Ci_unknownShare (ca : IV) : Int32 := lett (((ca 18).toInt64) + ((ca 17).toInt64)) fun (v1 : Int64) => if v1 = (0 : Int64) then ((0 : Int32)) else ((((1000000000 : Int64) * ((ca 17).toInt64)) / v1).toInt32)
set_option maxRecDepth 100000 in
set_option maxHeartbeats 4000000 in
theorem c_Ci_unknownShare (l : Launch) (g : GX) (qci : Nat) (qpa : Nat) (qpae : Nat) (qpar : Nat) (qpau : Nat) (qpab : Nat) (ca : IV) (cal : LV) (w0 : IV) (w1 : IV) (w2 : IV) (w3 : IV) (w4 : IV)  : Met l y_Ci_unknownShare (wsY y_Ci_unknownShare b_Ci_unknownShare 3 (some .int)) rm_Ci_unknownShare (CP g [.ref qci] (wCi g qci qpa qpae qpar qpau qpab ca cal w0 w1 w2 w3 w4)) (CI0 g (wCi g qci qpa qpae qpar qpau qpab ca cal w0 w1 w2 w3 w4) (sp_Ci_unknownShare ca)) 0 0 (inW (wCi g qci qpa qpae qpar qpau qpab ca cal w0 w1 w2 w3 w4)) := by
  refine Met.ofW (cc := b_Ci_unknownShare) (maxL := 3) (ret := (some .int)) pn_Ci rfl ?_
  intro p e s m args below meth c s₁ B hml hv
  obtain ⟨rfl, C, hP, hD, hS⟩ := enter "DecadeBridge$Circuit" rfl B hml hv
  obtain ⟨hx, hb, hr, hml, hown, hlk, hts, hK, hZo, hZ⟩ := id C
  refine entryW (lv := [(0, .ref qci)]) rfl (Nat.le_of_ble_eq_true rfl) (fun ls hl => ?_)
  obtain ⟨z, hz⟩ : ∃ z, z = sp_Ci_unknownShare ca := ⟨_, rfl⟩
  rw [← hz]
  unfold sp_Ci_unknownShare at hz
  refine lv_aload_n hx hb d_Ci_unknownShare_0 rfl (lv_at hl 0 rfl) ?_
  refine gf C hP 0 18 fkCi rfl (by decide) rfl qf_Ci_118 (gCi_18 _ _ _) d_Ci_unknownShare_1 ?_
  refine lv_i2l hx hb d_Ci_unknownShare_4 rfl ?_
  refine lv_aload_n hx hb d_Ci_unknownShare_5 rfl (lv_at hl 0 rfl) ?_
  refine gf C hP 0 17 fkCi rfl (by decide) rfl qf_Ci_115 (gCi_17 _ _ _) d_Ci_unknownShare_6 ?_
  refine lv_i2l hx hb d_Ci_unknownShare_9 rfl ?_
  refine lv_ladd hx hb d_Ci_unknownShare_10 ?_
  refine lv_topl (fun v1 ev1 => ?_)
  have hz := lett_z hz ev1
  refine lv_lstore_n (lv' := [(1, .long v1), (0, .ref qci)]) hx hb d_Ci_unknownShare_11 rfl hl (by decide) rfl (fun ls hl => ?_)
  refine lv_lload_n hx hb d_Ci_unknownShare_12 rfl (lv_at hl 0 rfl) ?_
  refine lv_lconst (v := 0) hx hb d_Ci_unknownShare_13 (by decide) ?_
  refine lc_ne (tgt := 22) hx hb d_Ci_unknownShare_14 d_Ci_unknownShare_15 (by decide) (fun c2 => ?_) (fun c2 => ?_)
  · have hz := hz.trans (if_neg c2)
    refine lv_ldc2 hx hb hown (hts _ qk_Ci_83) d_Ci_unknownShare_22 ?_
    refine lv_aload_n hx hb d_Ci_unknownShare_25 rfl (lv_at hl 1 rfl) ?_
    refine gf C hP 0 17 fkCi rfl (by decide) rfl qf_Ci_115 (gCi_17 _ _ _) d_Ci_unknownShare_26 ?_
    refine lv_i2l hx hb d_Ci_unknownShare_29 rfl ?_
    refine lv_lmul hx hb d_Ci_unknownShare_30 ?_
    refine lv_lload_n hx hb d_Ci_unknownShare_31 rfl (lv_at hl 0 rfl) ?_
    refine lv_ldiv hx hb d_Ci_unknownShare_32 c2 ?_
    refine lv_l2i hx hb d_Ci_unknownShare_33 rfl ?_
    exact endI0 C hz hP hS d_Ci_unknownShare_34
  · have hz := hz.trans (if_pos c2)
    refine lv_iconst (v := 0) hx hb d_Ci_unknownShare_18 (by decide) ?_
    refine lv_goto (tgt := 34) hx hb d_Ci_unknownShare_19 (by decide) ?_
    exact endI0 C hz hP hS d_Ci_unknownShare_34
abbrev rm_Ci_imbalance : Room := { frames := 1, cells := 0, slots := 0, locals := 22 }
noncomputable def sp_Ci_imbalance (ca : IV) : Int64 := lett (sp_Ci_unknownShare ca) fun (y1 : Int32) => lett ((((ca 3).toInt64) * ((y1 - (ca 13)).toInt64)) / (1000 : Int64)) fun (v2 : Int64) => if (ca 6) = 0 then (v2) else (-v2)
set_option maxRecDepth 100000 in
set_option maxHeartbeats 4000000 in
theorem c_Ci_imbalance (l : Launch) (g : GX) (qci : Nat) (qpa : Nat) (qpae : Nat) (qpar : Nat) (qpau : Nat) (qpab : Nat) (ca : IV) (cal : LV) (w0 : IV) (w1 : IV) (w2 : IV) (w3 : IV) (w4 : IV)  : Met l y_Ci_imbalance (wsY y_Ci_imbalance b_Ci_imbalance 3 (some .long)) rm_Ci_imbalance (CP g [.ref qci] (wCi g qci qpa qpae qpar qpau qpab ca cal w0 w1 w2 w3 w4)) (CL0 g (wCi g qci qpa qpae qpar qpau qpab ca cal w0 w1 w2 w3 w4) (sp_Ci_imbalance ca)) 0 0 (inW (wCi g qci qpa qpae qpar qpau qpab ca cal w0 w1 w2 w3 w4)) := by
  refine Met.ofW (cc := b_Ci_imbalance) (maxL := 3) (ret := (some .long)) pn_Ci rfl ?_
  intro p e s m args below meth c s₁ B hml hv
  obtain ⟨rfl, C, hP, hD, hS⟩ := enter "DecadeBridge$Circuit" rfl B hml hv
  obtain ⟨hx, hb, hr, hml, hown, hlk, hts, hK, hZo, hZ⟩ := id C
  refine entryW (lv := [(0, .ref qci)]) rfl (Nat.le_of_ble_eq_true rfl) (fun ls hl => ?_)
  obtain ⟨z, hz⟩ : ∃ z, z = sp_Ci_imbalance ca := ⟨_, rfl⟩
  rw [← hz]
  unfold sp_Ci_imbalance at hz
  refine lv_aload_n hx hb d_Ci_imbalance_0 rfl (lv_at hl 0 rfl) ?_
  refine gf C hP 0 3 fkCi rfl (by decide) rfl qf_Ci_22 (gCi_3 _ _ _) d_Ci_imbalance_1 ?_
  refine lv_i2l hx hb d_Ci_imbalance_4 rfl ?_
  refine lv_aload_n hx hb d_Ci_imbalance_5 rfl (lv_at hl 0 rfl) ?_
  have hB : SubW g (inW (wCi g qci qpa qpae qpar qpau qpab ca cal w0 w1 w2 w3 w4)) s (wCi g qci qpa qpae qpar qpau qpab ca cal w0 w1 w2 w3 w4) _ (List.range _) _ _ := (subF hP hD hS)
  refine goI0 hB (run_v C mf_Ci_unknownShare qm_Ci_121 (c_Ci_unknownShare l g qci qpa qpae qpar qpau qpab ca cal w0 w1 w2 w3 w4) rfl rfl ⟨Nat.le_of_ble_eq_true rfl, Nat.le_of_ble_eq_true rfl⟩ ⟨Nat.le_of_ble_eq_true rfl, Nat.le_of_ble_eq_true rfl⟩ hB rfl rfl hl rfl rfl (Nat.le_of_ble_eq_true rfl) d_Ci_imbalance_6) (fun y1 ey1 H locs hP hS => ?_)
  have hz := lett_z hz ey1
  refine lv_aload_n hx hb d_Ci_imbalance_9 rfl (lv_at hl 0 rfl) ?_
  refine gf C hP 0 13 fkCi rfl (by decide) rfl qf_Ci_70 (gCi_13 _ _ _) d_Ci_imbalance_10 ?_
  refine lv_isub hx hb d_Ci_imbalance_13 ?_
  refine lv_i2l hx hb d_Ci_imbalance_14 rfl ?_
  refine lv_lmul hx hb d_Ci_imbalance_15 ?_
  refine lv_ldc2 hx hb hown (hts _ qk_Ci_125) d_Ci_imbalance_16 ?_
  refine lv_ldiv hx hb d_Ci_imbalance_19 (by decide) ?_
  refine lv_topl (fun v2 ev2 => ?_)
  have hz := lett_z hz ev2
  refine lv_lstore_n (lv' := [(1, .long v2), (0, .ref qci)]) hx hb d_Ci_imbalance_20 rfl hl (by decide) rfl (fun ls hl => ?_)
  refine lv_aload_n hx hb d_Ci_imbalance_21 rfl (lv_at hl 1 rfl) ?_
  refine gf C hP 0 6 fkCi rfl (by decide) rfl qf_Ci_23 (gCi_6 _ _ _) d_Ci_imbalance_22 ?_
  refine lv_if_eq (tgt := 33) hx hb d_Ci_imbalance_25 (by decide) (fun c3 => ?_) (fun c3 => ?_)
  · have hz := hz.trans (if_pos c3)
    refine lv_lload_n hx hb d_Ci_imbalance_33 rfl (lv_at hl 0 rfl) ?_
    exact endL0 C hz hP hS d_Ci_imbalance_34
  · have hz := hz.trans (if_neg c3)
    refine lv_lload_n hx hb d_Ci_imbalance_28 rfl (lv_at hl 0 rfl) ?_
    refine lv_lneg hx hb d_Ci_imbalance_29 ?_
    refine lv_goto (tgt := 34) hx hb d_Ci_imbalance_30 (by decide) ?_
    exact endL0 C hz hP hS d_Ci_imbalance_34
abbrev rm_Ci_amperes : Room := { frames := 0, cells := 0, slots := 0, locals := 0 }
noncomputable def sp_Ci_amperes (ca : IV) : Int64 := lett (((ca 18).toInt64) + ((ca 17).toInt64)) fun (v1 : Int64) => if v1 = (0 : Int64) then ((0 : Int64)) else (((1000000 : Int64) * ((ca 3).toInt64)) / v1)
set_option maxRecDepth 100000 in
set_option maxHeartbeats 4000000 in
theorem c_Ci_amperes (l : Launch) (g : GX) (qci : Nat) (qpa : Nat) (qpae : Nat) (qpar : Nat) (qpau : Nat) (qpab : Nat) (ca : IV) (cal : LV) (w0 : IV) (w1 : IV) (w2 : IV) (w3 : IV) (w4 : IV)  : Met l y_Ci_amperes (wsY y_Ci_amperes b_Ci_amperes 3 (some .long)) rm_Ci_amperes (CP g [.ref qci] (wCi g qci qpa qpae qpar qpau qpab ca cal w0 w1 w2 w3 w4)) (CL0 g (wCi g qci qpa qpae qpar qpau qpab ca cal w0 w1 w2 w3 w4) (sp_Ci_amperes ca)) 0 0 (inW (wCi g qci qpa qpae qpar qpau qpab ca cal w0 w1 w2 w3 w4)) := by
  refine Met.ofW (cc := b_Ci_amperes) (maxL := 3) (ret := (some .long)) pn_Ci rfl ?_
  intro p e s m args below meth c s₁ B hml hv
  obtain ⟨rfl, C, hP, hD, hS⟩ := enter "DecadeBridge$Circuit" rfl B hml hv
  obtain ⟨hx, hb, hr, hml, hown, hlk, hts, hK, hZo, hZ⟩ := id C
  refine entryW (lv := [(0, .ref qci)]) rfl (Nat.le_of_ble_eq_true rfl) (fun ls hl => ?_)
  obtain ⟨z, hz⟩ : ∃ z, z = sp_Ci_amperes ca := ⟨_, rfl⟩
  rw [← hz]
  unfold sp_Ci_amperes at hz
  refine lv_aload_n hx hb d_Ci_amperes_0 rfl (lv_at hl 0 rfl) ?_
  refine gf C hP 0 18 fkCi rfl (by decide) rfl qf_Ci_118 (gCi_18 _ _ _) d_Ci_amperes_1 ?_
  refine lv_i2l hx hb d_Ci_amperes_4 rfl ?_
  refine lv_aload_n hx hb d_Ci_amperes_5 rfl (lv_at hl 0 rfl) ?_
  refine gf C hP 0 17 fkCi rfl (by decide) rfl qf_Ci_115 (gCi_17 _ _ _) d_Ci_amperes_6 ?_
  refine lv_i2l hx hb d_Ci_amperes_9 rfl ?_
  refine lv_ladd hx hb d_Ci_amperes_10 ?_
  refine lv_topl (fun v1 ev1 => ?_)
  have hz := lett_z hz ev1
  refine lv_lstore_n (lv' := [(1, .long v1), (0, .ref qci)]) hx hb d_Ci_amperes_11 rfl hl (by decide) rfl (fun ls hl => ?_)
  refine lv_lload_n hx hb d_Ci_amperes_12 rfl (lv_at hl 0 rfl) ?_
  refine lv_lconst (v := 0) hx hb d_Ci_amperes_13 (by decide) ?_
  refine lc_ne (tgt := 22) hx hb d_Ci_amperes_14 d_Ci_amperes_15 (by decide) (fun c2 => ?_) (fun c2 => ?_)
  · have hz := hz.trans (if_neg c2)
    refine lv_ldc2 hx hb hown (hts _ qk_Ci_127) d_Ci_amperes_22 ?_
    refine lv_aload_n hx hb d_Ci_amperes_25 rfl (lv_at hl 1 rfl) ?_
    refine gf C hP 0 3 fkCi rfl (by decide) rfl qf_Ci_22 (gCi_3 _ _ _) d_Ci_amperes_26 ?_
    refine lv_i2l hx hb d_Ci_amperes_29 rfl ?_
    refine lv_lmul hx hb d_Ci_amperes_30 ?_
    refine lv_lload_n hx hb d_Ci_amperes_31 rfl (lv_at hl 0 rfl) ?_
    refine lv_ldiv hx hb d_Ci_amperes_32 c2 ?_
    exact endL0 C hz hP hS d_Ci_amperes_33
  · have hz := hz.trans (if_pos c2)
    refine lv_lconst (v := 0) hx hb d_Ci_amperes_18 (by decide) ?_
    refine lv_goto (tgt := 33) hx hb d_Ci_amperes_19 (by decide) ?_
    exact endL0 C hz hP hS d_Ci_amperes_33
abbrev rm_Ci_powerBy : Room := { frames := 0, cells := 0, slots := 0, locals := 0 }
def HL_Ci_powerBy_15 (p : Program) (l : Launch) (e : Env) (s : State) (m : MethodId) (args : Array Value) (below : List Frame) (meth : Method) (c : Code) (g : GX)  (p2 : Int32) (sp : Int64 → Int64) (ok : Int64 → Prop) : Prop := ∀ (t0p15 : Int64), ok t0p15 → ∀ z : Int64, z = sp t0p15 → ∀ (H : Heap) (locs : List Loc) (ls : Array Slot), va_P g.1 vwCl (wNil g ) H → va_D (inW (wNil g )) (wNil g ) → va_S (inW (wNil g )) s.heap H locs → lv_has ls 5 [(2, .int p2)] → W p l e rm_Ci_powerBy s m args below meth c H locs 0 0 (MQ below (CL0 g (wNil g ) z) args s 0 0 (inW (wNil g ))) (F0 m 15 ls [.long t0p15])
noncomputable def sp_Ci_powerBy_15 (p2 : Int32)  (t0p15 : Int64) : Int64 := (((t0p15 * t0p15) / (1000 : Int64)) * p2.toInt64) / (1000000 : Int64)
def ok_Ci_powerBy_15 (p2 : Int32)   (t0p15 : Int64) : Prop := True
set_option maxRecDepth 100000 in
set_option maxHeartbeats 4000000 in
theorem k_Ci_powerBy_15 {p : Program} {l : Launch} {e : Env} {s : State} {m : MethodId} {args : Array Value} {below : List Frame} {meth : Method} {c : Code} {g : GX}  {p2 : Int32}  (C : Cx p s m args meth c (inW (wNil g )) g "DecadeBridge$Circuit" b_Ci_powerBy (some .long) 5)  : HL_Ci_powerBy_15 p l e s m args below meth c g  p2 (sp_Ci_powerBy_15 p2 ) (ok_Ci_powerBy_15 p2  ) := by
  intro t0p15 hok z hz H locs ls hP hD hS hl
  obtain ⟨hx, hb, hr, hml, hown, hlk, hts, hK, hZo, hZ⟩ := id C
  unfold sp_Ci_powerBy_15 at hz
  refine lv_lstore_n (lv' := [(3, .long t0p15), (2, .int p2)]) hx hb d_Ci_powerBy_15 rfl hl (by decide) rfl (fun ls hl => ?_)
  refine lv_lload_n hx hb d_Ci_powerBy_16 rfl (lv_at hl 0 rfl) ?_
  refine lv_lload_n hx hb d_Ci_powerBy_17 rfl (lv_at hl 0 rfl) ?_
  refine lv_lmul hx hb d_Ci_powerBy_18 ?_
  refine lv_ldc2 hx hb hown (hts _ qk_Ci_125) d_Ci_powerBy_19 ?_
  refine lv_ldiv hx hb d_Ci_powerBy_22 (by decide) ?_
  refine lv_iload_n hx hb d_Ci_powerBy_23 rfl (lv_at hl 1 rfl) ?_
  refine lv_i2l hx hb d_Ci_powerBy_24 rfl ?_
  refine lv_lmul hx hb d_Ci_powerBy_25 ?_
  refine lv_ldc2 hx hb hown (hts _ qk_Ci_127) d_Ci_powerBy_26 ?_
  refine lv_ldiv hx hb d_Ci_powerBy_29 (by decide) ?_
  exact endL0 C hz hP hS d_Ci_powerBy_30
noncomputable def sp_Ci_powerBy (p1 : Int64) (p2 : Int32) : Int64 := if p1 ≤ (1000000 : Int64) then (sp_Ci_powerBy_15 p2 p1) else (sp_Ci_powerBy_15 p2 (1000000 : Int64))
set_option maxRecDepth 100000 in
set_option maxHeartbeats 4000000 in
theorem c_Ci_powerBy (l : Launch) (g : GX)   (p1 : Int64) (p2 : Int32) : Met l y_Ci_powerBy (wsY y_Ci_powerBy b_Ci_powerBy 5 (some .long)) rm_Ci_powerBy (CP g [.long p1, .int p2] (wNil g )) (CL0 g (wNil g ) (sp_Ci_powerBy p1 p2)) 0 0 (inW (wNil g )) := by
  refine Met.ofW (cc := b_Ci_powerBy) (maxL := 5) (ret := (some .long)) pn_Ci rfl ?_
  intro p e s m args below meth c s₁ B hml hv
  obtain ⟨rfl, C, hP, hD, hS⟩ := enter "DecadeBridge$Circuit" rfl B hml hv
  obtain ⟨hx, hb, hr, hml, hown, hlk, hts, hK, hZo, hZ⟩ := id C
  refine entryW (lv := [(0, .long p1), (2, .int p2)]) rfl (Nat.le_of_ble_eq_true rfl) (fun ls hl => ?_)
  obtain ⟨z, hz⟩ : ∃ z, z = sp_Ci_powerBy p1 p2 := ⟨_, rfl⟩
  rw [← hz]
  unfold sp_Ci_powerBy at hz
  refine lv_lload_n hx hb d_Ci_powerBy_0 rfl (lv_at hl 0 rfl) ?_
  refine lv_ldc2 hx hb hown (hts _ qk_Ci_127) d_Ci_powerBy_1 ?_
  refine lc_le (tgt := 14) hx hb d_Ci_powerBy_4 d_Ci_powerBy_5 (by decide) (fun c1 => ?_) (fun c1 => ?_)
  · have hz := hz.trans (if_pos c1)
    refine lv_lload_n hx hb d_Ci_powerBy_14 rfl (lv_at hl 0 rfl) ?_
    exact k_Ci_powerBy_15 C p1 trivial _ hz _ _ ls hP hD hS (lv_sub hl [1] rfl)
  · have hz := hz.trans (if_neg c1)
    refine lv_ldc2 hx hb hown (hts _ qk_Ci_127) d_Ci_powerBy_8 ?_
    refine lv_goto (tgt := 15) hx hb d_Ci_powerBy_11 (by decide) ?_
    exact k_Ci_powerBy_15 C (1000000 : Int64) trivial _ hz _ _ ls hP hD hS (lv_sub hl [1] rfl)
abbrev rm_Ci_whyBlocked : Room := { frames := 1, cells := 0, slots := 0, locals := 22 }
noncomputable def sp_Ci_whyBlocked (ca : IV) (w0 : IV) : Int32 := if (ca 3) = 0 then ((1 : Int32)) else (lett (sp_Ci_amperes ca) fun (y2 : Int64) => if y2 ≤ ((w0 12).toInt64) then ((0 : Int32)) else ((2 : Int32)))
set_option maxRecDepth 100000 in
set_option maxHeartbeats 4000000 in
theorem c_Ci_whyBlocked (l : Launch) (g : GX) (qci : Nat) (qpa : Nat) (qpae : Nat) (qpar : Nat) (qpau : Nat) (qpab : Nat) (ca : IV) (cal : LV) (w0 : IV) (w1 : IV) (w2 : IV) (w3 : IV) (w4 : IV)  : Met l y_Ci_whyBlocked (wsY y_Ci_whyBlocked b_Ci_whyBlocked 1 (some .int)) rm_Ci_whyBlocked (CP g [.ref qci] (wCi g qci qpa qpae qpar qpau qpab ca cal w0 w1 w2 w3 w4)) (CI0 g (wCi g qci qpa qpae qpar qpau qpab ca cal w0 w1 w2 w3 w4) (sp_Ci_whyBlocked ca w0)) 0 0 (inW (wCi g qci qpa qpae qpar qpau qpab ca cal w0 w1 w2 w3 w4)) := by
  refine Met.ofW (cc := b_Ci_whyBlocked) (maxL := 1) (ret := (some .int)) pn_Ci rfl ?_
  intro p e s m args below meth c s₁ B hml hv
  obtain ⟨rfl, C, hP, hD, hS⟩ := enter "DecadeBridge$Circuit" rfl B hml hv
  obtain ⟨hx, hb, hr, hml, hown, hlk, hts, hK, hZo, hZ⟩ := id C
  refine entryW (lv := [(0, .ref qci)]) rfl (Nat.le_of_ble_eq_true rfl) (fun ls hl => ?_)
  obtain ⟨z, hz⟩ : ∃ z, z = sp_Ci_whyBlocked ca w0 := ⟨_, rfl⟩
  rw [← hz]
  unfold sp_Ci_whyBlocked at hz
  refine lv_aload_n hx hb d_Ci_whyBlocked_0 rfl (lv_at hl 0 rfl) ?_
  refine gf C hP 0 3 fkCi rfl (by decide) rfl qf_Ci_22 (gCi_3 _ _ _) d_Ci_whyBlocked_1 ?_
  refine lv_if_ne (tgt := 9) hx hb d_Ci_whyBlocked_4 (by decide) (fun c1 => ?_) (fun c1 => ?_)
  · have hz := hz.trans (if_neg c1)
    refine lv_aload_n hx hb d_Ci_whyBlocked_9 rfl (lv_at hl 0 rfl) ?_
    have hB : SubW g (inW (wCi g qci qpa qpae qpar qpau qpab ca cal w0 w1 w2 w3 w4)) s (wCi g qci qpa qpae qpar qpau qpab ca cal w0 w1 w2 w3 w4) _ (List.range _) _ _ := (subF hP hD hS)
    refine goL0 hB (run_v C mf_Ci_amperes qm_Ci_129 (c_Ci_amperes l g qci qpa qpae qpar qpau qpab ca cal w0 w1 w2 w3 w4) rfl rfl ⟨Nat.le_of_ble_eq_true rfl, Nat.le_of_ble_eq_true rfl⟩ ⟨Nat.le_of_ble_eq_true rfl, Nat.le_of_ble_eq_true rfl⟩ hB rfl rfl hl rfl rfl (Nat.le_of_ble_eq_true rfl) d_Ci_whyBlocked_10) (fun y2 ey2 H locs hP hS => ?_)
    have hz := lett_z hz ey2
    refine lv_aload_n hx hb d_Ci_whyBlocked_13 rfl (lv_at hl 0 rfl) ?_
    refine gf C hP 0 0 fkCi rfl (by decide) rfl qf_Ci_7 (gCi_0 _ _ _) d_Ci_whyBlocked_14 ?_
    refine gf C hP 1 12 fkPa rfl (by decide) rfl qf_Ci_133 (gPa_12 _ _ _ _ _) d_Ci_whyBlocked_17 ?_
    refine lv_i2l hx hb d_Ci_whyBlocked_20 rfl ?_
    refine lc_le (tgt := 29) hx hb d_Ci_whyBlocked_21 d_Ci_whyBlocked_22 (by decide) (fun c3 => ?_) (fun c3 => ?_)
    · have hz := hz.trans (if_pos c3)
      refine lv_iconst (v := 0) hx hb d_Ci_whyBlocked_29 (by decide) ?_
      exact endI0 C hz hP hS d_Ci_whyBlocked_30
    · have hz := hz.trans (if_neg c3)
      refine lv_iconst (v := 2) hx hb d_Ci_whyBlocked_25 (by decide) ?_
      refine lv_goto (tgt := 30) hx hb d_Ci_whyBlocked_26 (by decide) ?_
      exact endI0 C hz hP hS d_Ci_whyBlocked_30
  · have hz := hz.trans (if_pos c1)
    refine lv_iconst (v := 1) hx hb d_Ci_whyBlocked_7 (by decide) ?_
    exact endI0 C hz hP hS d_Ci_whyBlocked_8
abbrev rm_Ci_draw : Room := { frames := 0, cells := 0, slots := 0, locals := 0 }
noncomputable def sp_Ci_draw (p1 : Int32) (ca : IV) : Int32 × IV := lett (upd ca 11 (((ca 11) * (1103515245 : Int32)) + (12345 : Int32))) fun (ca_1 : IV) => if (1 : Int32) ≤ p1 then (((((ca_1 11).toUInt32 >>> ((16 : Int32).toUInt32 &&& Int32.toUInt32 31)).toInt32) - (((ca_1 11).toUInt32 >>> ((16 : Int32).toUInt32 &&& Int32.toUInt32 31)).toInt32) / p1 * p1, ca_1)) else (((0 : Int32), ca_1))
def ok_Ci_draw (p1 : Int32) (ca : IV) : Prop := lett (upd ca 11 (((ca 11) * (1103515245 : Int32)) + (12345 : Int32))) fun (ca_1 : IV) => (((1 : Int32) ≤ p1 → (¬ p1 = 0) ∧ True) ∧ (¬ ((1 : Int32) ≤ p1) → True))
set_option maxRecDepth 100000 in
set_option maxHeartbeats 4000000 in
theorem c_Ci_draw (l : Launch) (g : GX) (qci : Nat) (qpa : Nat) (qpae : Nat) (qpar : Nat) (qpau : Nat) (qpab : Nat) (ca : IV) (cal : LV) (w0 : IV) (w1 : IV) (w2 : IV) (w3 : IV) (w4 : IV) (p1 : Int32) (hok : ok_Ci_draw p1 ca) : Met l y_Ci_draw (wsY y_Ci_draw b_Ci_draw 2 (some .int)) rm_Ci_draw (CP g [.ref qci, .int p1] (wCi g qci qpa qpae qpar qpau qpab ca cal w0 w1 w2 w3 w4)) (CI g (wCi g qci qpa qpae qpar qpau qpab ca cal w0 w1 w2 w3 w4) (fun u : IV => wCi g qci qpa qpae qpar qpau qpab u cal w0 w1 w2 w3 w4) (sp_Ci_draw p1 ca)) 0 0 (inW (wCi g qci qpa qpae qpar qpau qpab ca cal w0 w1 w2 w3 w4)) := by
  refine Met.ofW (cc := b_Ci_draw) (maxL := 2) (ret := (some .int)) pn_Ci rfl ?_
  intro p e s m args below meth c s₁ B hml hv
  obtain ⟨rfl, C, hP, hD, hS⟩ := enter "DecadeBridge$Circuit" rfl B hml hv
  obtain ⟨hx, hb, hr, hml, hown, hlk, hts, hK, hZo, hZ⟩ := id C
  refine entryW (lv := [(0, .ref qci), (1, .int p1)]) rfl (Nat.le_of_ble_eq_true rfl) (fun ls hl => ?_)
  obtain ⟨z, hz⟩ : ∃ z, z = sp_Ci_draw p1 ca := ⟨_, rfl⟩
  rw [← hz]
  unfold sp_Ci_draw at hz
  unfold ok_Ci_draw at hok
  refine lv_aload_n hx hb d_Ci_draw_0 rfl (lv_at hl 0 rfl) ?_
  refine lv_aload_n hx hb d_Ci_draw_1 rfl (lv_at hl 0 rfl) ?_
  refine gf C hP 0 11 fkCi rfl (by decide) rfl qf_Ci_43 (gCi_11 _ _ _) d_Ci_draw_2 ?_
  refine lv_ldc hx hb hown (hts _ qk_Ci_136) d_Ci_draw_5 ?_
  refine lv_imul hx hb d_Ci_draw_7 ?_
  refine lv_sipush (v := 12345) hx hb d_Ci_draw_8 (by decide) ?_
  refine lv_iadd hx hb d_Ci_draw_11 ?_
  refine pfI C hP hD hS 0 11 fkCi rfl (by decide) rfl qf_Ci_43 rfl rfl rfl (Nat.le_of_ble_eq_true rfl) (ff := fun o => fCi qpa o cal) (sCi_11 _ _ _ _) d_Ci_draw_12 (fun ca_1 eca_1 H locs hP hD hS => ?_)
  have hP : va_P g.1 vwCl (wCi g qci qpa qpae qpar qpau qpab ca_1 cal w0 w1 w2 w3 w4) H := hP
  have hD : va_D (inW (wCi g qci qpa qpae qpar qpau qpab ca cal w0 w1 w2 w3 w4)) (wCi g qci qpa qpae qpar qpau qpab ca_1 cal w0 w1 w2 w3 w4) := hD
  have hz := lett_z hz eca_1
  have hok := lett_o hok eca_1
  refine lv_iload_n hx hb d_Ci_draw_15 rfl (lv_at hl 1 rfl) ?_
  refine lv_iconst (v := 1) hx hb d_Ci_draw_16 (by decide) ?_
  refine lv_icmp_ge (tgt := 24) hx hb d_Ci_draw_17 (by decide) (fun c2 => ?_) (fun c2 => ?_)
  · have hz := hz.trans (if_pos c2)
    have hok := hok.1 c2
    refine lv_aload_n hx hb d_Ci_draw_24 rfl (lv_at hl 0 rfl) ?_
    refine gf C hP 0 11 fkCi rfl (by decide) rfl qf_Ci_43 (gCi_11 _ _ _) d_Ci_draw_25 ?_
    refine lv_bipush (v := 16) hx hb d_Ci_draw_28 (by decide) ?_
    refine lv_iushr hx hb d_Ci_draw_30 rfl ?_
    refine lv_iload_n hx hb d_Ci_draw_31 rfl (lv_at hl 1 rfl) ?_
    have hs3 := hok.1
    have hok := hok.2
    refine lv_irem hx hb d_Ci_draw_32 hs3 ?_
    exact endI1 C hz hP hS d_Ci_draw_33
  · have hz := hz.trans (if_neg c2)
    refine lv_iconst (v := 0) hx hb d_Ci_draw_20 (by decide) ?_
    refine lv_goto (tgt := 33) hx hb d_Ci_draw_21 (by decide) ?_
    exact endI1 C hz hP hS d_Ci_draw_33
abbrev rm_He_clear : Room := { frames := 0, cells := 0, slots := 0, locals := 0 }
noncomputable def sp_He_clear (hv : IV) : IV := lett (upd hv 0 (0 : Int32)) fun (hv_1 : IV) => lett (upd hv_1 1 (0 : Int32)) fun (hv_2 : IV) => lett (upd hv_2 2 (0 : Int32)) fun (hv_3 : IV) => hv_3
set_option maxRecDepth 100000 in
set_option maxHeartbeats 4000000 in
theorem c_He_clear (l : Launch) (g : GX) (qhe : Nat) (hv : IV)  : Met l y_He_clear (wsY y_He_clear b_He_clear 1 none) rm_He_clear (CP g [.ref qhe] (wHe g qhe hv)) (CV g (wHe g qhe hv) (fun u : IV => wHe g qhe u) (sp_He_clear hv)) 0 0 (inW (wHe g qhe hv)) := by
  refine Met.ofW (cc := b_He_clear) (maxL := 1) (ret := none) pn_He rfl ?_
  intro p e s m args below meth c s₁ B hml hv
  obtain ⟨rfl, C, hP, hD, hS⟩ := enter "DecadeBridge$Heating" rfl B hml hv
  obtain ⟨hx, hb, hr, hml, hown, hlk, hts, hK, hZo, hZ⟩ := id C
  refine entryW (lv := [(0, .ref qhe)]) rfl (Nat.le_of_ble_eq_true rfl) (fun ls hl => ?_)
  obtain ⟨z, hz⟩ : ∃ z, z = sp_He_clear hv := ⟨_, rfl⟩
  rw [← hz]
  unfold sp_He_clear at hz
  refine lv_aload_n hx hb d_He_clear_0 rfl (lv_at hl 0 rfl) ?_
  refine lv_iconst (v := 0) hx hb d_He_clear_1 (by decide) ?_
  refine pfI C hP hD hS 0 0 fkHe rfl (by decide) rfl qf_He_7 rfl rfl rfl (Nat.le_of_ble_eq_true rfl) (ff := fun o => fHe o) (sHe_0 _ _) d_He_clear_2 (fun hv_1 ehv_1 H locs hP hD hS => ?_)
  have hP : va_P g.1 vwCl (wHe g qhe hv_1) H := hP
  have hD : va_D (inW (wHe g qhe hv)) (wHe g qhe hv_1) := hD
  have hz := lett_z hz ehv_1
  refine lv_aload_n hx hb d_He_clear_5 rfl (lv_at hl 0 rfl) ?_
  refine lv_iconst (v := 0) hx hb d_He_clear_6 (by decide) ?_
  refine pfI C hP hD hS 0 1 fkHe rfl (by decide) rfl qf_He_13 rfl rfl rfl (Nat.le_of_ble_eq_true rfl) (ff := fun o => fHe o) (sHe_1 _ _) d_He_clear_7 (fun hv_2 ehv_2 H locs hP hD hS => ?_)
  have hP : va_P g.1 vwCl (wHe g qhe hv_2) H := hP
  have hD : va_D (inW (wHe g qhe hv)) (wHe g qhe hv_2) := hD
  have hz := lett_z hz ehv_2
  refine lv_aload_n hx hb d_He_clear_10 rfl (lv_at hl 0 rfl) ?_
  refine lv_iconst (v := 0) hx hb d_He_clear_11 (by decide) ?_
  refine pfI C hP hD hS 0 2 fkHe rfl (by decide) rfl qf_He_16 rfl rfl rfl (Nat.le_of_ble_eq_true rfl) (ff := fun o => fHe o) (sHe_2 _ _) d_He_clear_12 (fun hv_3 ehv_3 H locs hP hD hS => ?_)
  have hP : va_P g.1 vwCl (wHe g qhe hv_3) H := hP
  have hD : va_D (inW (wHe g qhe hv)) (wHe g qhe hv_3) := hD
  have hz := lett_z hz ehv_3
  exact endV C hz hP hS d_He_clear_15
abbrev rm_He_copy : Room := { frames := 0, cells := 0, slots := 0, locals := 0 }
noncomputable def sp_He_copy (hv : IV) (kv : IV) : IV := lett (upd hv 0 (kv 0)) fun (hv_1 : IV) => lett (upd hv_1 1 (kv 1)) fun (hv_2 : IV) => lett (upd hv_2 2 (kv 2)) fun (hv_3 : IV) => hv_3
set_option maxRecDepth 100000 in
set_option maxHeartbeats 4000000 in
theorem c_He_copy (l : Launch) (g : GX) (qhe : Nat) (qhf : Nat) (hv : IV) (kv : IV)  : Met l y_He_copy (wsY y_He_copy b_He_copy 2 none) rm_He_copy (CP g [.ref qhe, .ref qhf] (wHH g qhe qhf hv kv)) (CV g (wHH g qhe qhf hv kv) (fun u : IV => wHH g qhe qhf u kv) (sp_He_copy hv kv)) 0 0 (inW (wHH g qhe qhf hv kv)) := by
  refine Met.ofW (cc := b_He_copy) (maxL := 2) (ret := none) pn_He rfl ?_
  intro p e s m args below meth c s₁ B hml hv
  obtain ⟨rfl, C, hP, hD, hS⟩ := enter "DecadeBridge$Heating" rfl B hml hv
  obtain ⟨hx, hb, hr, hml, hown, hlk, hts, hK, hZo, hZ⟩ := id C
  refine entryW (lv := [(0, .ref qhe), (1, .ref qhf)]) rfl (Nat.le_of_ble_eq_true rfl) (fun ls hl => ?_)
  obtain ⟨z, hz⟩ : ∃ z, z = sp_He_copy hv kv := ⟨_, rfl⟩
  rw [← hz]
  unfold sp_He_copy at hz
  refine lv_aload_n hx hb d_He_copy_0 rfl (lv_at hl 0 rfl) ?_
  refine lv_aload_n hx hb d_He_copy_1 rfl (lv_at hl 1 rfl) ?_
  refine gf C hP 1 0 fkHe rfl (by decide) rfl qf_He_7 (gHe_0 _) d_He_copy_2 ?_
  refine pfI C hP hD hS 0 0 fkHe rfl (by decide) rfl qf_He_7 rfl rfl rfl (Nat.le_of_ble_eq_true rfl) (ff := fun o => fHe o) (sHe_0 _ _) d_He_copy_5 (fun hv_1 ehv_1 H locs hP hD hS => ?_)
  have hP : va_P g.1 vwCl (wHH g qhe qhf hv_1 kv) H := hP
  have hD : va_D (inW (wHH g qhe qhf hv kv)) (wHH g qhe qhf hv_1 kv) := hD
  have hz := lett_z hz ehv_1
  refine lv_aload_n hx hb d_He_copy_8 rfl (lv_at hl 0 rfl) ?_
  refine lv_aload_n hx hb d_He_copy_9 rfl (lv_at hl 1 rfl) ?_
  refine gf C hP 1 1 fkHe rfl (by decide) rfl qf_He_13 (gHe_1 _) d_He_copy_10 ?_
  refine pfI C hP hD hS 0 1 fkHe rfl (by decide) rfl qf_He_13 rfl rfl rfl (Nat.le_of_ble_eq_true rfl) (ff := fun o => fHe o) (sHe_1 _ _) d_He_copy_13 (fun hv_2 ehv_2 H locs hP hD hS => ?_)
  have hP : va_P g.1 vwCl (wHH g qhe qhf hv_2 kv) H := hP
  have hD : va_D (inW (wHH g qhe qhf hv kv)) (wHH g qhe qhf hv_2 kv) := hD
  have hz := lett_z hz ehv_2
  refine lv_aload_n hx hb d_He_copy_16 rfl (lv_at hl 0 rfl) ?_
  refine lv_aload_n hx hb d_He_copy_17 rfl (lv_at hl 1 rfl) ?_
  refine gf C hP 1 2 fkHe rfl (by decide) rfl qf_He_16 (gHe_2 _) d_He_copy_18 ?_
  refine pfI C hP hD hS 0 2 fkHe rfl (by decide) rfl qf_He_16 rfl rfl rfl (Nat.le_of_ble_eq_true rfl) (ff := fun o => fHe o) (sHe_2 _ _) d_He_copy_21 (fun hv_3 ehv_3 H locs hP hD hS => ?_)
  have hP : va_P g.1 vwCl (wHH g qhe qhf hv_3 kv) H := hP
  have hD : va_D (inW (wHH g qhe qhf hv kv)) (wHH g qhe qhf hv_3 kv) := hD
  have hz := lett_z hz ehv_3
  exact endV C hz hP hS d_He_copy_24
abbrev rm_He_behindTick : Room := { frames := 0, cells := 0, slots := 0, locals := 0 }
noncomputable def sp_He_behindTick (p1 : Int32) (p2 : Int64) (hv : IV) : Int32 := lett ((p1.toInt64 + ((p2 * ((hv 1).toInt64)) / (1000 : Int64))) - ((p1.toInt64 * ((hv 2).toInt64)) / (100 : Int64))) fun (v1 : Int64) => if (0 : Int64) ≤ v1 then (if v1 ≤ (200000 : Int64) then (v1.toInt32) else ((200000 : Int32))) else ((0 : Int32))
set_option maxRecDepth 100000 in
set_option maxHeartbeats 4000000 in
theorem c_He_behindTick (l : Launch) (g : GX) (qhe : Nat) (hv : IV) (p1 : Int32) (p2 : Int64) : Met l y_He_behindTick (wsY y_He_behindTick b_He_behindTick 6 (some .int)) rm_He_behindTick (CP g [.ref qhe, .int p1, .long p2] (wHe g qhe hv)) (CI0 g (wHe g qhe hv) (sp_He_behindTick p1 p2 hv)) 0 0 (inW (wHe g qhe hv)) := by
  refine Met.ofW (cc := b_He_behindTick) (maxL := 6) (ret := (some .int)) pn_He rfl ?_
  intro p e s m args below meth c s₁ B hml hv
  obtain ⟨rfl, C, hP, hD, hS⟩ := enter "DecadeBridge$Heating" rfl B hml hv
  obtain ⟨hx, hb, hr, hml, hown, hlk, hts, hK, hZo, hZ⟩ := id C
  refine entryW (lv := [(0, .ref qhe), (1, .int p1), (2, .long p2)]) rfl (Nat.le_of_ble_eq_true rfl) (fun ls hl => ?_)
  obtain ⟨z, hz⟩ : ∃ z, z = sp_He_behindTick p1 p2 hv := ⟨_, rfl⟩
  rw [← hz]
  unfold sp_He_behindTick at hz
  refine lv_iload_n hx hb d_He_behindTick_0 rfl (lv_at hl 1 rfl) ?_
  refine lv_i2l hx hb d_He_behindTick_1 rfl ?_
  refine lv_lload_n hx hb d_He_behindTick_2 rfl (lv_at hl 2 rfl) ?_
  refine lv_aload_n hx hb d_He_behindTick_3 rfl (lv_at hl 0 rfl) ?_
  refine gf C hP 0 1 fkHe rfl (by decide) rfl qf_He_13 (gHe_1 _) d_He_behindTick_4 ?_
  refine lv_i2l hx hb d_He_behindTick_7 rfl ?_
  refine lv_lmul hx hb d_He_behindTick_8 ?_
  refine lv_ldc2 hx hb hown (hts _ qk_He_19) d_He_behindTick_9 ?_
  refine lv_ldiv hx hb d_He_behindTick_12 (by decide) ?_
  refine lv_ladd hx hb d_He_behindTick_13 ?_
  refine lv_iload_n hx hb d_He_behindTick_14 rfl (lv_at hl 1 rfl) ?_
  refine lv_i2l hx hb d_He_behindTick_15 rfl ?_
  refine lv_aload_n hx hb d_He_behindTick_16 rfl (lv_at hl 0 rfl) ?_
  refine gf C hP 0 2 fkHe rfl (by decide) rfl qf_He_16 (gHe_2 _) d_He_behindTick_17 ?_
  refine lv_i2l hx hb d_He_behindTick_20 rfl ?_
  refine lv_lmul hx hb d_He_behindTick_21 ?_
  refine lv_ldc2 hx hb hown (hts _ qk_He_21) d_He_behindTick_22 ?_
  refine lv_ldiv hx hb d_He_behindTick_25 (by decide) ?_
  refine lv_lsub hx hb d_He_behindTick_26 ?_
  refine lv_topl (fun v1 ev1 => ?_)
  have hz := lett_z hz ev1
  refine lv_lstore (lv' := [(4, .long v1), (0, .ref qhe), (1, .int p1), (2, .long p2)]) hx hb d_He_behindTick_27 hl (by decide) rfl (fun ls hl => ?_)
  refine lv_lload hx hb d_He_behindTick_29 (lv_at hl 0 rfl) ?_
  refine lv_lconst (v := 0) hx hb d_He_behindTick_31 (by decide) ?_
  refine lc_ge (tgt := 38) hx hb d_He_behindTick_32 d_He_behindTick_33 (by decide) (fun c2 => ?_) (fun c2 => ?_)
  · have hz := hz.trans (if_pos c2)
    refine lv_lload hx hb d_He_behindTick_38 (lv_at hl 0 rfl) ?_
    refine lv_ldc2 hx hb hown (hts _ qk_He_23) d_He_behindTick_40 ?_
    refine lc_le (tgt := 52) hx hb d_He_behindTick_43 d_He_behindTick_44 (by decide) (fun c3 => ?_) (fun c3 => ?_)
    · have hz := hz.trans (if_pos c3)
      refine lv_lload hx hb d_He_behindTick_52 (lv_at hl 0 rfl) ?_
      refine lv_l2i hx hb d_He_behindTick_54 rfl ?_
      exact endI0 C hz hP hS d_He_behindTick_55
    · have hz := hz.trans (if_neg c3)
      refine lv_ldc hx hb hown (hts _ qk_He_25) d_He_behindTick_47 ?_
      refine lv_goto (tgt := 55) hx hb d_He_behindTick_49 (by decide) ?_
      exact endI0 C hz hP hS d_He_behindTick_55
  · have hz := hz.trans (if_neg c2)
    refine lv_iconst (v := 0) hx hb d_He_behindTick_36 (by decide) ?_
    exact endI0 C hz hP hS d_He_behindTick_37
abbrev rm_Pa_clear : Room := { frames := 1, cells := 0, slots := 0, locals := 20 }
def HL_Pa_clear_17 (p : Program) (l : Launch) (e : Env) (s : State) (m : MethodId) (args : Array Value) (below : List Frame) (meth : Method) (c : Code) (g : GX) (qpa : Nat) (qpae : Nat) (qpar : Nat) (qpau : Nat) (qpab : Nat) (ws0 : va_W) (w_3 : IV) (w2 : IV) (w3 : IV) (w4 : IV) (sp : Int32 → IV → (IV × IV × IV × IV × IV)) (ok : Int32 → IV → Prop) : Prop := ∀ (x1p17 : Int32) (w1p17 : IV), ok x1p17 w1p17 → ∀ z : (IV × IV × IV × IV × IV), z = sp x1p17 w1p17 → ∀ (H : Heap) (locs : List Loc) (ls : Array Slot), va_P g.1 vwCl (wPa g qpa qpae qpar qpau qpab w_3 w1p17 w2 w3 w4) H → va_D (inW ws0) (wPa g qpa qpae qpar qpau qpab w_3 w1p17 w2 w3 w4) → va_S (inW ws0) s.heap H locs → lv_has ls 2 [(0, .ref qpa), (1, .int x1p17)] → W p l e rm_Pa_clear s m args below meth c H locs 0 0 (MQ below (CV g ws0 (fun u : IV × IV × IV × IV × IV => wPa g qpa qpae qpar qpau qpab u.1 u.2.1 u.2.2.1 u.2.2.2.1 u.2.2.2.2) z) args s 0 0 (inW ws0)) (F0 m 17 ls [])
def HL_Pa_clear_39 (p : Program) (l : Launch) (e : Env) (s : State) (m : MethodId) (args : Array Value) (below : List Frame) (meth : Method) (c : Code) (g : GX) (qpa : Nat) (qpae : Nat) (qpar : Nat) (qpau : Nat) (qpab : Nat) (ws0 : va_W) (w_3 : IV) (w1p17 : IV) (w2 : IV) (w3 : IV) (w4 : IV) (sp : (IV × IV × IV × IV × IV)) (ok : Prop) : Prop := ∀ (_ : Unit), ok → ∀ z : (IV × IV × IV × IV × IV), z = sp → ∀ (H : Heap) (locs : List Loc) (ls : Array Slot), va_P g.1 vwCl (wPa g qpa qpae qpar qpau qpab w_3 w1p17 w2 w3 w4) H → va_D (inW ws0) (wPa g qpa qpae qpar qpau qpab w_3 w1p17 w2 w3 w4) → va_S (inW ws0) s.heap H locs → lv_has ls 2 [(0, .ref qpa)] → W p l e rm_Pa_clear s m args below meth c H locs 0 0 (MQ below (CV g ws0 (fun u : IV × IV × IV × IV × IV => wPa g qpa qpae qpar qpau qpab u.1 u.2.1 u.2.2.1 u.2.2.2.1 u.2.2.2.2) z) args s 0 0 (inW ws0)) (F0 m 39 ls [])
def HL_Pa_clear_41 (p : Program) (l : Launch) (e : Env) (s : State) (m : MethodId) (args : Array Value) (below : List Frame) (meth : Method) (c : Code) (g : GX) (qpa : Nat) (qpae : Nat) (qpar : Nat) (qpau : Nat) (qpab : Nat) (ws0 : va_W) (w_3 : IV) (w1p17 : IV) (w3 : IV) (w4 : IV) (sp : Int32 → IV → (IV × IV × IV × IV × IV)) (ok : Int32 → IV → Prop) : Prop := ∀ (x1p41 : Int32) (w2p41 : IV), ok x1p41 w2p41 → ∀ z : (IV × IV × IV × IV × IV), z = sp x1p41 w2p41 → ∀ (H : Heap) (locs : List Loc) (ls : Array Slot), va_P g.1 vwCl (wPa g qpa qpae qpar qpau qpab w_3 w1p17 w2p41 w3 w4) H → va_D (inW ws0) (wPa g qpa qpae qpar qpau qpab w_3 w1p17 w2p41 w3 w4) → va_S (inW ws0) s.heap H locs → lv_has ls 2 [(0, .ref qpa), (1, .int x1p41)] → W p l e rm_Pa_clear s m args below meth c H locs 0 0 (MQ below (CV g ws0 (fun u : IV × IV × IV × IV × IV => wPa g qpa qpae qpar qpau qpab u.1 u.2.1 u.2.2.1 u.2.2.2.1 u.2.2.2.2) z) args s 0 0 (inW ws0)) (F0 m 41 ls [])
def HL_Pa_clear_63 (p : Program) (l : Launch) (e : Env) (s : State) (m : MethodId) (args : Array Value) (below : List Frame) (meth : Method) (c : Code) (g : GX) (qpa : Nat) (qpae : Nat) (qpar : Nat) (qpau : Nat) (qpab : Nat) (ws0 : va_W) (w_3 : IV) (w1p17 : IV) (w2p41 : IV) (w3 : IV) (w4 : IV) (sp : (IV × IV × IV × IV × IV)) (ok : Prop) : Prop := ∀ (_ : Unit), ok → ∀ z : (IV × IV × IV × IV × IV), z = sp → ∀ (H : Heap) (locs : List Loc) (ls : Array Slot), va_P g.1 vwCl (wPa g qpa qpae qpar qpau qpab w_3 w1p17 w2p41 w3 w4) H → va_D (inW ws0) (wPa g qpa qpae qpar qpau qpab w_3 w1p17 w2p41 w3 w4) → va_S (inW ws0) s.heap H locs → lv_has ls 2 [(0, .ref qpa)] → W p l e rm_Pa_clear s m args below meth c H locs 0 0 (MQ below (CV g ws0 (fun u : IV × IV × IV × IV × IV => wPa g qpa qpae qpar qpau qpab u.1 u.2.1 u.2.2.1 u.2.2.2.1 u.2.2.2.2) z) args s 0 0 (inW ws0)) (F0 m 63 ls [])
noncomputable def sp_Pa_clear_63 (w_3 : IV) (w3 : IV) (w4 : IV) (w1p17 : IV) (w2p41 : IV)   : IV × IV × IV × IV × IV := lett (upd w_3 5 (1000 : Int32)) fun (w_12 : IV) => lett (sp_He_clear w3) fun (y13 : IV) => lett (sp_He_clear w4) fun (y14 : IV) => lett (upd w_12 8 (0 : Int32)) fun (w_15 : IV) => lett (upd w_15 9 (0 : Int32)) fun (w_16 : IV) => lett (upd w_16 10 (0 : Int32)) fun (w_17 : IV) => lett (upd w_17 11 (1000 : Int32)) fun (w_18 : IV) => lett (upd w_18 12 (1000000 : Int32)) fun (w_19 : IV) => lett (upd w_19 13 (9999999 : Int32)) fun (w_20 : IV) => lett (upd w_20 14 (0 : Int32)) fun (w_21 : IV) => lett (upd w_21 15 (0 : Int32)) fun (w_22 : IV) => lett (upd w_22 16 (0 : Int32)) fun (w_23 : IV) => lett (upd w_23 17 (1 : Int32)) fun (w_24 : IV) => (w_24, w1p17, w2p41, y13, y14)
def ok_Pa_clear_63 (w_3 : IV) (w3 : IV) (w4 : IV) (w1p17 : IV) (w2p41 : IV)    : Prop := True
set_option maxRecDepth 100000 in
set_option maxHeartbeats 4000000 in
theorem k_Pa_clear_63 {p : Program} {l : Launch} {e : Env} {s : State} {m : MethodId} {args : Array Value} {below : List Frame} {meth : Method} {c : Code} {g : GX} {qpa : Nat} {qpae : Nat} {qpar : Nat} {qpau : Nat} {qpab : Nat} {ws0 : va_W} {w_3 : IV} {w1p17 : IV} {w2p41 : IV} {w3 : IV} {w4 : IV}  (C : Cx p s m args meth c (inW ws0) g "DecadeBridge$Parts" b_Pa_clear none 2)  : HL_Pa_clear_63 p l e s m args below meth c g qpa qpae qpar qpau qpab ws0 w_3 w1p17 w2p41 w3 w4 (sp_Pa_clear_63 w_3 w3 w4 w1p17 w2p41 ) (ok_Pa_clear_63 w_3 w3 w4 w1p17 w2p41  ) := by
  intro _ hok z hz H locs ls hP hD hS hl
  obtain ⟨hx, hb, hr, hml, hown, hlk, hts, hK, hZo, hZ⟩ := id C
  unfold sp_Pa_clear_63 at hz
  refine lv_aload_n hx hb d_Pa_clear_63 rfl (lv_at hl 0 rfl) ?_
  refine lv_sipush (v := 1000) hx hb d_Pa_clear_64 (by decide) ?_
  refine pfI C hP hD hS 0 5 fkPa rfl (by decide) rfl qf_Pa_41 rfl rfl rfl (Nat.le_of_ble_eq_true rfl) (ff := fun o => fPa qpae qpar qpau qpab o) (sPa_5 _ _ _ _ _ _) d_Pa_clear_67 (fun w_12 ew_12 H locs hP hD hS => ?_)
  have hP : va_P g.1 vwCl (wPa g qpa qpae qpar qpau qpab w_12 w1p17 w2p41 w3 w4) H := hP
  have hD : va_D (inW ws0) (wPa g qpa qpae qpar qpau qpab w_12 w1p17 w2p41 w3 w4) := hD
  have hz := lett_z hz ew_12
  refine lv_aload_n hx hb d_Pa_clear_70 rfl (lv_at hl 0 rfl) ?_
  refine gf C hP 0 6 fkPa rfl (by decide) rfl qf_Pa_21 (gPa_6 _ _ _ _ _) d_Pa_clear_71 ?_
  have hB : SubW g (inW ws0) s (wPa g qpa qpae qpar qpau qpab w_12 w1p17 w2p41 w3 w4) (wHe g qpau w3) [3] _ _ := ⟨rfl, rfl, hP, hD, hS⟩
  refine goV1 hB (run_v C mf_He_clear qm_Pa_44 (c_He_clear l g qpau w3) rfl rfl ⟨Nat.le_of_ble_eq_true rfl, Nat.le_of_ble_eq_true rfl⟩ ⟨Nat.le_of_ble_eq_true rfl, Nat.le_of_ble_eq_true rfl⟩ hB rfl rfl hl rfl rfl (Nat.le_of_ble_eq_true rfl) d_Pa_clear_74) (fun _ => rfl) (fun y13 ey13 H locs hP hD hS => ?_)
  have hP : va_P g.1 vwCl (wPa g qpa qpae qpar qpau qpab w_12 w1p17 w2p41 y13 w4) H := hP
  have hD : va_D (inW ws0) (wPa g qpa qpae qpar qpau qpab w_12 w1p17 w2p41 y13 w4) := hD
  have hz := lett_z hz ey13
  refine lv_aload_n hx hb d_Pa_clear_77 rfl (lv_at hl 0 rfl) ?_
  refine gf C hP 0 7 fkPa rfl (by decide) rfl qf_Pa_25 (gPa_7 _ _ _ _ _) d_Pa_clear_78 ?_
  have hB : SubW g (inW ws0) s (wPa g qpa qpae qpar qpau qpab w_12 w1p17 w2p41 y13 w4) (wHe g qpab w4) [4] _ _ := ⟨rfl, rfl, hP, hD, hS⟩
  refine goV1 hB (run_v C mf_He_clear qm_Pa_44 (c_He_clear l g qpab w4) rfl rfl ⟨Nat.le_of_ble_eq_true rfl, Nat.le_of_ble_eq_true rfl⟩ ⟨Nat.le_of_ble_eq_true rfl, Nat.le_of_ble_eq_true rfl⟩ hB rfl rfl hl rfl rfl (Nat.le_of_ble_eq_true rfl) d_Pa_clear_81) (fun _ => rfl) (fun y14 ey14 H locs hP hD hS => ?_)
  have hP : va_P g.1 vwCl (wPa g qpa qpae qpar qpau qpab w_12 w1p17 w2p41 y13 y14) H := hP
  have hD : va_D (inW ws0) (wPa g qpa qpae qpar qpau qpab w_12 w1p17 w2p41 y13 y14) := hD
  have hz := lett_z hz ey14
  refine lv_aload_n hx hb d_Pa_clear_84 rfl (lv_at hl 0 rfl) ?_
  refine lv_iconst (v := 0) hx hb d_Pa_clear_85 (by decide) ?_
  refine pfI C hP hD hS 0 8 fkPa rfl (by decide) rfl qf_Pa_45 rfl rfl rfl (Nat.le_of_ble_eq_true rfl) (ff := fun o => fPa qpae qpar qpau qpab o) (sPa_8 _ _ _ _ _ _) d_Pa_clear_86 (fun w_15 ew_15 H locs hP hD hS => ?_)
  have hP : va_P g.1 vwCl (wPa g qpa qpae qpar qpau qpab w_15 w1p17 w2p41 y13 y14) H := hP
  have hD : va_D (inW ws0) (wPa g qpa qpae qpar qpau qpab w_15 w1p17 w2p41 y13 y14) := hD
  have hz := lett_z hz ew_15
  refine lv_aload_n hx hb d_Pa_clear_89 rfl (lv_at hl 0 rfl) ?_
  refine lv_iconst (v := 0) hx hb d_Pa_clear_90 (by decide) ?_
  refine pfI C hP hD hS 0 9 fkPa rfl (by decide) rfl qf_Pa_48 rfl rfl rfl (Nat.le_of_ble_eq_true rfl) (ff := fun o => fPa qpae qpar qpau qpab o) (sPa_9 _ _ _ _ _ _) d_Pa_clear_91 (fun w_16 ew_16 H locs hP hD hS => ?_)
  have hP : va_P g.1 vwCl (wPa g qpa qpae qpar qpau qpab w_16 w1p17 w2p41 y13 y14) H := hP
  have hD : va_D (inW ws0) (wPa g qpa qpae qpar qpau qpab w_16 w1p17 w2p41 y13 y14) := hD
  have hz := lett_z hz ew_16
  refine lv_aload_n hx hb d_Pa_clear_94 rfl (lv_at hl 0 rfl) ?_
  refine lv_iconst (v := 0) hx hb d_Pa_clear_95 (by decide) ?_
  refine pfI C hP hD hS 0 10 fkPa rfl (by decide) rfl qf_Pa_51 rfl rfl rfl (Nat.le_of_ble_eq_true rfl) (ff := fun o => fPa qpae qpar qpau qpab o) (sPa_10 _ _ _ _ _ _) d_Pa_clear_96 (fun w_17 ew_17 H locs hP hD hS => ?_)
  have hP : va_P g.1 vwCl (wPa g qpa qpae qpar qpau qpab w_17 w1p17 w2p41 y13 y14) H := hP
  have hD : va_D (inW ws0) (wPa g qpa qpae qpar qpau qpab w_17 w1p17 w2p41 y13 y14) := hD
  have hz := lett_z hz ew_17
  refine lv_aload_n hx hb d_Pa_clear_99 rfl (lv_at hl 0 rfl) ?_
  refine lv_sipush (v := 1000) hx hb d_Pa_clear_100 (by decide) ?_
  refine pfI C hP hD hS 0 11 fkPa rfl (by decide) rfl qf_Pa_54 rfl rfl rfl (Nat.le_of_ble_eq_true rfl) (ff := fun o => fPa qpae qpar qpau qpab o) (sPa_11 _ _ _ _ _ _) d_Pa_clear_103 (fun w_18 ew_18 H locs hP hD hS => ?_)
  have hP : va_P g.1 vwCl (wPa g qpa qpae qpar qpau qpab w_18 w1p17 w2p41 y13 y14) H := hP
  have hD : va_D (inW ws0) (wPa g qpa qpae qpar qpau qpab w_18 w1p17 w2p41 y13 y14) := hD
  have hz := lett_z hz ew_18
  refine lv_aload_n hx hb d_Pa_clear_106 rfl (lv_at hl 0 rfl) ?_
  refine lv_ldc hx hb hown (hts _ qk_Pa_57) d_Pa_clear_107 ?_
  refine pfI C hP hD hS 0 12 fkPa rfl (by decide) rfl qf_Pa_58 rfl rfl rfl (Nat.le_of_ble_eq_true rfl) (ff := fun o => fPa qpae qpar qpau qpab o) (sPa_12 _ _ _ _ _ _) d_Pa_clear_109 (fun w_19 ew_19 H locs hP hD hS => ?_)
  have hP : va_P g.1 vwCl (wPa g qpa qpae qpar qpau qpab w_19 w1p17 w2p41 y13 y14) H := hP
  have hD : va_D (inW ws0) (wPa g qpa qpae qpar qpau qpab w_19 w1p17 w2p41 y13 y14) := hD
  have hz := lett_z hz ew_19
  refine lv_aload_n hx hb d_Pa_clear_112 rfl (lv_at hl 0 rfl) ?_
  refine lv_ldc hx hb hown (hts _ qk_Pa_61) d_Pa_clear_113 ?_
  refine pfI C hP hD hS 0 13 fkPa rfl (by decide) rfl qf_Pa_62 rfl rfl rfl (Nat.le_of_ble_eq_true rfl) (ff := fun o => fPa qpae qpar qpau qpab o) (sPa_13 _ _ _ _ _ _) d_Pa_clear_115 (fun w_20 ew_20 H locs hP hD hS => ?_)
  have hP : va_P g.1 vwCl (wPa g qpa qpae qpar qpau qpab w_20 w1p17 w2p41 y13 y14) H := hP
  have hD : va_D (inW ws0) (wPa g qpa qpae qpar qpau qpab w_20 w1p17 w2p41 y13 y14) := hD
  have hz := lett_z hz ew_20
  refine lv_aload_n hx hb d_Pa_clear_118 rfl (lv_at hl 0 rfl) ?_
  refine lv_iconst (v := 0) hx hb d_Pa_clear_119 (by decide) ?_
  refine pfI C hP hD hS 0 14 fkPa rfl (by decide) rfl qf_Pa_65 rfl rfl rfl (Nat.le_of_ble_eq_true rfl) (ff := fun o => fPa qpae qpar qpau qpab o) (sPa_14 _ _ _ _ _ _) d_Pa_clear_120 (fun w_21 ew_21 H locs hP hD hS => ?_)
  have hP : va_P g.1 vwCl (wPa g qpa qpae qpar qpau qpab w_21 w1p17 w2p41 y13 y14) H := hP
  have hD : va_D (inW ws0) (wPa g qpa qpae qpar qpau qpab w_21 w1p17 w2p41 y13 y14) := hD
  have hz := lett_z hz ew_21
  refine lv_aload_n hx hb d_Pa_clear_123 rfl (lv_at hl 0 rfl) ?_
  refine lv_iconst (v := 0) hx hb d_Pa_clear_124 (by decide) ?_
  refine pfI C hP hD hS 0 15 fkPa rfl (by decide) rfl qf_Pa_68 rfl rfl rfl (Nat.le_of_ble_eq_true rfl) (ff := fun o => fPa qpae qpar qpau qpab o) (sPa_15 _ _ _ _ _ _) d_Pa_clear_125 (fun w_22 ew_22 H locs hP hD hS => ?_)
  have hP : va_P g.1 vwCl (wPa g qpa qpae qpar qpau qpab w_22 w1p17 w2p41 y13 y14) H := hP
  have hD : va_D (inW ws0) (wPa g qpa qpae qpar qpau qpab w_22 w1p17 w2p41 y13 y14) := hD
  have hz := lett_z hz ew_22
  refine lv_aload_n hx hb d_Pa_clear_128 rfl (lv_at hl 0 rfl) ?_
  refine lv_iconst (v := 0) hx hb d_Pa_clear_129 (by decide) ?_
  refine pfI C hP hD hS 0 16 fkPa rfl (by decide) rfl qf_Pa_71 rfl rfl rfl (Nat.le_of_ble_eq_true rfl) (ff := fun o => fPa qpae qpar qpau qpab o) (sPa_16 _ _ _ _ _ _) d_Pa_clear_130 (fun w_23 ew_23 H locs hP hD hS => ?_)
  have hP : va_P g.1 vwCl (wPa g qpa qpae qpar qpau qpab w_23 w1p17 w2p41 y13 y14) H := hP
  have hD : va_D (inW ws0) (wPa g qpa qpae qpar qpau qpab w_23 w1p17 w2p41 y13 y14) := hD
  have hz := lett_z hz ew_23
  refine lv_aload_n hx hb d_Pa_clear_133 rfl (lv_at hl 0 rfl) ?_
  refine lv_iconst (v := 1) hx hb d_Pa_clear_134 (by decide) ?_
  refine pfI C hP hD hS 0 17 fkPa rfl (by decide) rfl qf_Pa_74 rfl rfl rfl (Nat.le_of_ble_eq_true rfl) (ff := fun o => fPa qpae qpar qpau qpab o) (sPa_17 _ _ _ _ _ _) d_Pa_clear_135 (fun w_24 ew_24 H locs hP hD hS => ?_)
  have hP : va_P g.1 vwCl (wPa g qpa qpae qpar qpau qpab w_24 w1p17 w2p41 y13 y14) H := hP
  have hD : va_D (inW ws0) (wPa g qpa qpae qpar qpau qpab w_24 w1p17 w2p41 y13 y14) := hD
  have hz := lett_z hz ew_24
  exact endV C hz hP hS d_Pa_clear_138
noncomputable def bd_Pa_clear_41 (w_3 : IV) (w3 : IV) (w4 : IV) (w1p17 : IV) (r41 : Int32 → IV → (IV × IV × IV × IV × IV)) (x1p41 : Int32) (w2p41 : IV) : IV × IV × IV × IV × IV := if (5 : Int32) ≤ x1p41 then (sp_Pa_clear_63 w_3 w3 w4 w1p17 w2p41) else (lett (upd w2p41 x1p41.toNatClampNeg (0 : Int32)) fun (w_10 : IV) => lett (x1p41 + (1 : Int32)) fun (v11 : Int32) => r41 v11 w_10)
def okb_Pa_clear_41 (w_3 : IV) (w3 : IV) (w4 : IV) (w1p17 : IV) (r41 : Int32 → IV → (IV × IV × IV × IV × IV)) (q41 : Int32 → IV → Prop) (x1p41 : Int32) (w2p41 : IV) : Prop := (((5 : Int32) ≤ x1p41 → True) ∧ (¬ ((5 : Int32) ≤ x1p41) → (vp_in x1p41 5) ∧ lett (upd w2p41 x1p41.toNatClampNeg (0 : Int32)) fun (w_10 : IV) => lett (x1p41 + (1 : Int32)) fun (v11 : Int32) => q41 v11 w_10))
noncomputable def sp_Pa_clear_41 (w_3 : IV) (w3 : IV) (w4 : IV) (w1p17 : IV)  : Nat → Int32 → IV → (IV × IV × IV × IV × IV)
  | 0 => fun _ _ => default
  | f + 1 => bd_Pa_clear_41 w_3 w3 w4 w1p17  (sp_Pa_clear_41 w_3 w3 w4 w1p17  f)
def ok_Pa_clear_41 (w_3 : IV) (w3 : IV) (w4 : IV) (w1p17 : IV)   : Nat → Int32 → IV → Prop
  | 0 => fun _ _ => False
  | f + 1 => okb_Pa_clear_41 w_3 w3 w4 w1p17  (sp_Pa_clear_41 w_3 w3 w4 w1p17  f)  (ok_Pa_clear_41 w_3 w3 w4 w1p17   f)
set_option maxRecDepth 100000 in
set_option maxHeartbeats 4000000 in
theorem kb_Pa_clear_41 {p : Program} {l : Launch} {e : Env} {s : State} {m : MethodId} {args : Array Value} {below : List Frame} {meth : Method} {c : Code} {g : GX} {qpa : Nat} {qpae : Nat} {qpar : Nat} {qpau : Nat} {qpab : Nat} {ws0 : va_W} {w_3 : IV} {w1p17 : IV} {w3 : IV} {w4 : IV}  (C : Cx p s m args meth c (inW ws0) g "DecadeBridge$Parts" b_Pa_clear none 2) {r41 : Int32 → IV → (IV × IV × IV × IV × IV)} {q41 : Int32 → IV → Prop}  (ih41 : HL_Pa_clear_41 p l e s m args below meth c g qpa qpae qpar qpau qpab ws0 w_3 w1p17 w3 w4 r41 q41) : HL_Pa_clear_41 p l e s m args below meth c g qpa qpae qpar qpau qpab ws0 w_3 w1p17 w3 w4 (bd_Pa_clear_41 w_3 w3 w4 w1p17  r41) (okb_Pa_clear_41 w_3 w3 w4 w1p17  r41  q41) := by
  intro x1p41 w2p41 hok z hz H locs ls hP hD hS hl
  obtain ⟨hx, hb, hr, hml, hown, hlk, hts, hK, hZo, hZ⟩ := id C
  unfold bd_Pa_clear_41 at hz
  unfold okb_Pa_clear_41 at hok
  refine lv_iload_n hx hb d_Pa_clear_41 rfl (lv_at hl 1 rfl) ?_
  refine lv_aload_n hx hb d_Pa_clear_42 rfl (lv_at hl 0 rfl) ?_
  refine gf C hP 0 4 fkPa rfl (by decide) rfl qf_Pa_15 (gPa_4 _ _ _ _ _) d_Pa_clear_43 ?_
  refine alen C hP 2 rfl (t0 := 0) rfl (v := 5) (by decide) d_Pa_clear_46 ?_
  refine lv_icmp_ge (tgt := 63) hx hb d_Pa_clear_47 (by decide) (fun c8 => ?_) (fun c8 => ?_)
  · have hz := hz.trans (if_pos c8)
    exact k_Pa_clear_63 C () trivial _ hz _ _ ls hP hD hS (lv_sub hl [0] rfl)
  · have hz := hz.trans (if_neg c8)
    have hok := hok.2 c8
    refine lv_aload_n hx hb d_Pa_clear_50 rfl (lv_at hl 0 rfl) ?_
    refine gf C hP 0 4 fkPa rfl (by decide) rfl qf_Pa_15 (gPa_4 _ _ _ _ _) d_Pa_clear_51 ?_
    refine lv_iload_n hx hb d_Pa_clear_54 rfl (lv_at hl 1 rfl) ?_
    refine lv_iconst (v := 0) hx hb d_Pa_clear_55 (by decide) ?_
    have hs9 := hok.1
    have hok := hok.2
    refine stI C hP hD hS 2 rfl hs9 rfl d_Pa_clear_56 (fun w_10 ew_10 H locs hP hD hS => ?_)
    have hP : va_P g.1 vwCl (wPa g qpa qpae qpar qpau qpab w_3 w1p17 w_10 w3 w4) H := hP
    have hD : va_D (inW ws0) (wPa g qpa qpae qpar qpau qpab w_3 w1p17 w_10 w3 w4) := hD
    have hz := lett_z hz ew_10
    have hok := lett_o hok ew_10
    obtain ⟨v11, ev11⟩ : ∃ y : Int32, y = x1p41 + (1 : Int32) := ⟨_, rfl⟩
    have hz := lett_z hz ev11
    have hok := lett_o hok ev11
    refine lv_iinc (v := v11) (lv' := [(1, .int v11), (0, .ref qpa)]) hx hb d_Pa_clear_57 hl (k := 1) rfl (by rw [ev11]; rfl) (by decide) rfl (fun ls hl => ?_)
    refine lv_goto (tgt := 41) hx hb d_Pa_clear_60 (by decide) ?_
    exact ih41 v11 w_10 hok _ hz _ _ ls hP hD hS (lv_sub hl [1, 0] rfl)
theorem k_Pa_clear_41 {p : Program} {l : Launch} {e : Env} {s : State} {m : MethodId} {args : Array Value} {below : List Frame} {meth : Method} {c : Code} {g : GX} {qpa : Nat} {qpae : Nat} {qpar : Nat} {qpau : Nat} {qpab : Nat} {ws0 : va_W} {w_3 : IV} {w1p17 : IV} {w3 : IV} {w4 : IV}  (C : Cx p s m args meth c (inW ws0) g "DecadeBridge$Parts" b_Pa_clear none 2) (f : Nat)  : HL_Pa_clear_41 p l e s m args below meth c g qpa qpae qpar qpau qpab ws0 w_3 w1p17 w3 w4 (sp_Pa_clear_41 w_3 w3 w4 w1p17  f) (ok_Pa_clear_41 w_3 w3 w4 w1p17   f) := by
  induction f with
  | zero => intro x1p41 w2p41 hok; exact False.elim hok
  | succ f ih => exact kb_Pa_clear_41 C  ih
noncomputable def sp_Pa_clear_39 (w_3 : IV) (w3 : IV) (w4 : IV) (w1p17 : IV) (w2 : IV)   : IV × IV × IV × IV × IV := sp_Pa_clear_41 w_3 w3 w4 w1p17 big (0 : Int32) w2
def ok_Pa_clear_39 (w_3 : IV) (w3 : IV) (w4 : IV) (w1p17 : IV) (w2 : IV)    : Prop := ok_Pa_clear_41 w_3 w3 w4 w1p17 big (0 : Int32) w2
set_option maxRecDepth 100000 in
set_option maxHeartbeats 4000000 in
theorem k_Pa_clear_39 {p : Program} {l : Launch} {e : Env} {s : State} {m : MethodId} {args : Array Value} {below : List Frame} {meth : Method} {c : Code} {g : GX} {qpa : Nat} {qpae : Nat} {qpar : Nat} {qpau : Nat} {qpab : Nat} {ws0 : va_W} {w_3 : IV} {w1p17 : IV} {w2 : IV} {w3 : IV} {w4 : IV}  (C : Cx p s m args meth c (inW ws0) g "DecadeBridge$Parts" b_Pa_clear none 2)  : HL_Pa_clear_39 p l e s m args below meth c g qpa qpae qpar qpau qpab ws0 w_3 w1p17 w2 w3 w4 (sp_Pa_clear_39 w_3 w3 w4 w1p17 w2 ) (ok_Pa_clear_39 w_3 w3 w4 w1p17 w2  ) := by
  intro _ hok z hz H locs ls hP hD hS hl
  obtain ⟨hx, hb, hr, hml, hown, hlk, hts, hK, hZo, hZ⟩ := id C
  unfold sp_Pa_clear_39 at hz
  unfold ok_Pa_clear_39 at hok
  refine lv_iconst (v := 0) hx hb d_Pa_clear_39 (by decide) ?_
  refine lv_istore_n (lv' := [(1, .int (0 : Int32)), (0, .ref qpa)]) hx hb d_Pa_clear_40 rfl hl (by decide) rfl (fun ls hl => ?_)
  exact k_Pa_clear_41 C big (0 : Int32) w2 hok _ hz _ _ ls hP hD hS (lv_sub hl [1, 0] rfl)
noncomputable def bd_Pa_clear_17 (w_3 : IV) (w3 : IV) (w4 : IV) (w2 : IV) (r17 : Int32 → IV → (IV × IV × IV × IV × IV)) (x1p17 : Int32) (w1p17 : IV) : IV × IV × IV × IV × IV := if (4 : Int32) ≤ x1p17 then (sp_Pa_clear_39 w_3 w3 w4 w1p17 w2) else (lett (upd w1p17 x1p17.toNatClampNeg (0 : Int32)) fun (w_6 : IV) => lett (x1p17 + (1 : Int32)) fun (v7 : Int32) => r17 v7 w_6)
def okb_Pa_clear_17 (w_3 : IV) (w3 : IV) (w4 : IV) (w2 : IV) (r17 : Int32 → IV → (IV × IV × IV × IV × IV)) (q17 : Int32 → IV → Prop) (x1p17 : Int32) (w1p17 : IV) : Prop := (((4 : Int32) ≤ x1p17 → ok_Pa_clear_39 w_3 w3 w4 w1p17 w2) ∧ (¬ ((4 : Int32) ≤ x1p17) → (vp_in x1p17 4) ∧ lett (upd w1p17 x1p17.toNatClampNeg (0 : Int32)) fun (w_6 : IV) => lett (x1p17 + (1 : Int32)) fun (v7 : Int32) => q17 v7 w_6))
noncomputable def sp_Pa_clear_17 (w_3 : IV) (w3 : IV) (w4 : IV) (w2 : IV)  : Nat → Int32 → IV → (IV × IV × IV × IV × IV)
  | 0 => fun _ _ => default
  | f + 1 => bd_Pa_clear_17 w_3 w3 w4 w2  (sp_Pa_clear_17 w_3 w3 w4 w2  f)
def ok_Pa_clear_17 (w_3 : IV) (w3 : IV) (w4 : IV) (w2 : IV)   : Nat → Int32 → IV → Prop
  | 0 => fun _ _ => False
  | f + 1 => okb_Pa_clear_17 w_3 w3 w4 w2  (sp_Pa_clear_17 w_3 w3 w4 w2  f)  (ok_Pa_clear_17 w_3 w3 w4 w2   f)
set_option maxRecDepth 100000 in
set_option maxHeartbeats 4000000 in
theorem kb_Pa_clear_17 {p : Program} {l : Launch} {e : Env} {s : State} {m : MethodId} {args : Array Value} {below : List Frame} {meth : Method} {c : Code} {g : GX} {qpa : Nat} {qpae : Nat} {qpar : Nat} {qpau : Nat} {qpab : Nat} {ws0 : va_W} {w_3 : IV} {w2 : IV} {w3 : IV} {w4 : IV}  (C : Cx p s m args meth c (inW ws0) g "DecadeBridge$Parts" b_Pa_clear none 2) {r17 : Int32 → IV → (IV × IV × IV × IV × IV)} {q17 : Int32 → IV → Prop}  (ih17 : HL_Pa_clear_17 p l e s m args below meth c g qpa qpae qpar qpau qpab ws0 w_3 w2 w3 w4 r17 q17) : HL_Pa_clear_17 p l e s m args below meth c g qpa qpae qpar qpau qpab ws0 w_3 w2 w3 w4 (bd_Pa_clear_17 w_3 w3 w4 w2  r17) (okb_Pa_clear_17 w_3 w3 w4 w2  r17  q17) := by
  intro x1p17 w1p17 hok z hz H locs ls hP hD hS hl
  obtain ⟨hx, hb, hr, hml, hown, hlk, hts, hK, hZo, hZ⟩ := id C
  unfold bd_Pa_clear_17 at hz
  unfold okb_Pa_clear_17 at hok
  refine lv_iload_n hx hb d_Pa_clear_17 rfl (lv_at hl 1 rfl) ?_
  refine lv_aload_n hx hb d_Pa_clear_18 rfl (lv_at hl 0 rfl) ?_
  refine gf C hP 0 3 fkPa rfl (by decide) rfl qf_Pa_9 (gPa_3 _ _ _ _ _) d_Pa_clear_19 ?_
  refine alen C hP 1 rfl (t0 := 0) rfl (v := 4) (by decide) d_Pa_clear_22 ?_
  refine lv_icmp_ge (tgt := 39) hx hb d_Pa_clear_23 (by decide) (fun c4 => ?_) (fun c4 => ?_)
  · have hz := hz.trans (if_pos c4)
    have hok := hok.1 c4
    exact k_Pa_clear_39 C () hok _ hz _ _ ls hP hD hS (lv_sub hl [0] rfl)
  · have hz := hz.trans (if_neg c4)
    have hok := hok.2 c4
    refine lv_aload_n hx hb d_Pa_clear_26 rfl (lv_at hl 0 rfl) ?_
    refine gf C hP 0 3 fkPa rfl (by decide) rfl qf_Pa_9 (gPa_3 _ _ _ _ _) d_Pa_clear_27 ?_
    refine lv_iload_n hx hb d_Pa_clear_30 rfl (lv_at hl 1 rfl) ?_
    refine lv_iconst (v := 0) hx hb d_Pa_clear_31 (by decide) ?_
    have hs5 := hok.1
    have hok := hok.2
    refine stI C hP hD hS 1 rfl hs5 rfl d_Pa_clear_32 (fun w_6 ew_6 H locs hP hD hS => ?_)
    have hP : va_P g.1 vwCl (wPa g qpa qpae qpar qpau qpab w_3 w_6 w2 w3 w4) H := hP
    have hD : va_D (inW ws0) (wPa g qpa qpae qpar qpau qpab w_3 w_6 w2 w3 w4) := hD
    have hz := lett_z hz ew_6
    have hok := lett_o hok ew_6
    obtain ⟨v7, ev7⟩ : ∃ y : Int32, y = x1p17 + (1 : Int32) := ⟨_, rfl⟩
    have hz := lett_z hz ev7
    have hok := lett_o hok ev7
    refine lv_iinc (v := v7) (lv' := [(1, .int v7), (0, .ref qpa)]) hx hb d_Pa_clear_33 hl (k := 1) rfl (by rw [ev7]; rfl) (by decide) rfl (fun ls hl => ?_)
    refine lv_goto (tgt := 17) hx hb d_Pa_clear_36 (by decide) ?_
    exact ih17 v7 w_6 hok _ hz _ _ ls hP hD hS (lv_sub hl [1, 0] rfl)
theorem k_Pa_clear_17 {p : Program} {l : Launch} {e : Env} {s : State} {m : MethodId} {args : Array Value} {below : List Frame} {meth : Method} {c : Code} {g : GX} {qpa : Nat} {qpae : Nat} {qpar : Nat} {qpau : Nat} {qpab : Nat} {ws0 : va_W} {w_3 : IV} {w2 : IV} {w3 : IV} {w4 : IV}  (C : Cx p s m args meth c (inW ws0) g "DecadeBridge$Parts" b_Pa_clear none 2) (f : Nat)  : HL_Pa_clear_17 p l e s m args below meth c g qpa qpae qpar qpau qpab ws0 w_3 w2 w3 w4 (sp_Pa_clear_17 w_3 w3 w4 w2  f) (ok_Pa_clear_17 w_3 w3 w4 w2   f) := by
  induction f with
  | zero => intro x1p17 w1p17 hok; exact False.elim hok
  | succ f ih => exact kb_Pa_clear_17 C  ih
noncomputable def sp_Pa_clear (w0 : IV) (w1 : IV) (w2 : IV) (w3 : IV) (w4 : IV) : IV × IV × IV × IV × IV := lett (upd w0 0 (2 : Int32)) fun (w_1 : IV) => lett (upd w_1 1 (1 : Int32)) fun (w_2 : IV) => lett (upd w_2 2 (0 : Int32)) fun (w_3 : IV) => sp_Pa_clear_17 w_3 w3 w4 w2 big (0 : Int32) w1
def ok_Pa_clear (w0 : IV) (w1 : IV) (w2 : IV) (w3 : IV) (w4 : IV) : Prop := lett (upd w0 0 (2 : Int32)) fun (w_1 : IV) => lett (upd w_1 1 (1 : Int32)) fun (w_2 : IV) => lett (upd w_2 2 (0 : Int32)) fun (w_3 : IV) => ok_Pa_clear_17 w_3 w3 w4 w2 big (0 : Int32) w1
set_option maxRecDepth 100000 in
set_option maxHeartbeats 4000000 in
theorem c_Pa_clear (l : Launch) (g : GX) (qpa : Nat) (qpae : Nat) (qpar : Nat) (qpau : Nat) (qpab : Nat) (w0 : IV) (w1 : IV) (w2 : IV) (w3 : IV) (w4 : IV)  (hok : ok_Pa_clear w0 w1 w2 w3 w4) : Met l y_Pa_clear (wsY y_Pa_clear b_Pa_clear 2 none) rm_Pa_clear (CP g [.ref qpa] (wPa g qpa qpae qpar qpau qpab w0 w1 w2 w3 w4)) (CV g (wPa g qpa qpae qpar qpau qpab w0 w1 w2 w3 w4) (fun u : IV × IV × IV × IV × IV => wPa g qpa qpae qpar qpau qpab u.1 u.2.1 u.2.2.1 u.2.2.2.1 u.2.2.2.2) (sp_Pa_clear w0 w1 w2 w3 w4)) 0 0 (inW (wPa g qpa qpae qpar qpau qpab w0 w1 w2 w3 w4)) := by
  refine Met.ofW (cc := b_Pa_clear) (maxL := 2) (ret := none) pn_Pa rfl ?_
  intro p e s m args below meth c s₁ B hml hv
  obtain ⟨rfl, C, hP, hD, hS⟩ := enter "DecadeBridge$Parts" rfl B hml hv
  obtain ⟨hx, hb, hr, hml, hown, hlk, hts, hK, hZo, hZ⟩ := id C
  refine entryW (lv := [(0, .ref qpa)]) rfl (Nat.le_of_ble_eq_true rfl) (fun ls hl => ?_)
  obtain ⟨z, hz⟩ : ∃ z, z = sp_Pa_clear w0 w1 w2 w3 w4 := ⟨_, rfl⟩
  rw [← hz]
  unfold sp_Pa_clear at hz
  unfold ok_Pa_clear at hok
  refine lv_aload_n hx hb d_Pa_clear_0 rfl (lv_at hl 0 rfl) ?_
  refine lv_iconst (v := 2) hx hb d_Pa_clear_1 (by decide) ?_
  refine pfI C hP hD hS 0 0 fkPa rfl (by decide) rfl qf_Pa_31 rfl rfl rfl (Nat.le_of_ble_eq_true rfl) (ff := fun o => fPa qpae qpar qpau qpab o) (sPa_0 _ _ _ _ _ _) d_Pa_clear_2 (fun w_1 ew_1 H locs hP hD hS => ?_)
  have hP : va_P g.1 vwCl (wPa g qpa qpae qpar qpau qpab w_1 w1 w2 w3 w4) H := hP
  have hD : va_D (inW (wPa g qpa qpae qpar qpau qpab w0 w1 w2 w3 w4)) (wPa g qpa qpae qpar qpau qpab w_1 w1 w2 w3 w4) := hD
  have hz := lett_z hz ew_1
  have hok := lett_o hok ew_1
  refine lv_aload_n hx hb d_Pa_clear_5 rfl (lv_at hl 0 rfl) ?_
  refine lv_iconst (v := 1) hx hb d_Pa_clear_6 (by decide) ?_
  refine pfI C hP hD hS 0 1 fkPa rfl (by decide) rfl qf_Pa_35 rfl rfl rfl (Nat.le_of_ble_eq_true rfl) (ff := fun o => fPa qpae qpar qpau qpab o) (sPa_1 _ _ _ _ _ _) d_Pa_clear_7 (fun w_2 ew_2 H locs hP hD hS => ?_)
  have hP : va_P g.1 vwCl (wPa g qpa qpae qpar qpau qpab w_2 w1 w2 w3 w4) H := hP
  have hD : va_D (inW (wPa g qpa qpae qpar qpau qpab w0 w1 w2 w3 w4)) (wPa g qpa qpae qpar qpau qpab w_2 w1 w2 w3 w4) := hD
  have hz := lett_z hz ew_2
  have hok := lett_o hok ew_2
  refine lv_aload_n hx hb d_Pa_clear_10 rfl (lv_at hl 0 rfl) ?_
  refine lv_iconst (v := 0) hx hb d_Pa_clear_11 (by decide) ?_
  refine pfI C hP hD hS 0 2 fkPa rfl (by decide) rfl qf_Pa_38 rfl rfl rfl (Nat.le_of_ble_eq_true rfl) (ff := fun o => fPa qpae qpar qpau qpab o) (sPa_2 _ _ _ _ _ _) d_Pa_clear_12 (fun w_3 ew_3 H locs hP hD hS => ?_)
  have hP : va_P g.1 vwCl (wPa g qpa qpae qpar qpau qpab w_3 w1 w2 w3 w4) H := hP
  have hD : va_D (inW (wPa g qpa qpae qpar qpau qpab w0 w1 w2 w3 w4)) (wPa g qpa qpae qpar qpau qpab w_3 w1 w2 w3 w4) := hD
  have hz := lett_z hz ew_3
  have hok := lett_o hok ew_3
  refine lv_iconst (v := 0) hx hb d_Pa_clear_15 (by decide) ?_
  refine lv_istore_n (lv' := [(1, .int (0 : Int32)), (0, .ref qpa)]) hx hb d_Pa_clear_16 rfl hl (by decide) rfl (fun ls hl => ?_)
  exact k_Pa_clear_17 C big (0 : Int32) w1 hok _ hz _ _ ls hP hD hS (lv_sub hl [1, 0] rfl)
abbrev rm_Pa_tenTo : Room := { frames := 0, cells := 0, slots := 0, locals := 0 }
def HL_Pa_tenTo_4 (p : Program) (l : Launch) (e : Env) (s : State) (m : MethodId) (args : Array Value) (below : List Frame) (meth : Method) (c : Code) (g : GX)  (p1 : Int32) (sp : Int32 → Int32 → Int32) (ok : Int32 → Int32 → Prop) : Prop := ∀ (x1p4 : Int32) (x2p4 : Int32), ok x1p4 x2p4 → ∀ z : Int32, z = sp x1p4 x2p4 → ∀ (H : Heap) (locs : List Loc) (ls : Array Slot), va_P g.1 vwCl (wNil g ) H → va_D (inW (wNil g )) (wNil g ) → va_S (inW (wNil g )) s.heap H locs → lv_has ls 3 [(0, .int p1), (1, .int x1p4), (2, .int x2p4)] → W p l e rm_Pa_tenTo s m args below meth c H locs 0 0 (MQ below (CI0 g (wNil g ) z) args s 0 0 (inW (wNil g ))) (F0 m 4 ls [])
noncomputable def bd_Pa_tenTo_4 (p1 : Int32) (r4 : Int32 → Int32 → Int32) (x1p4 : Int32) (x2p4 : Int32) : Int32 := if p1 ≤ x2p4 then (x1p4) else (if (9 : Int32) ≤ x2p4 then (x1p4) else (lett (x1p4 * (10 : Int32)) fun (v3 : Int32) => lett (x2p4 + (1 : Int32)) fun (v4 : Int32) => r4 v3 v4))
def okb_Pa_tenTo_4 (p1 : Int32) (r4 : Int32 → Int32 → Int32) (q4 : Int32 → Int32 → Prop) (x1p4 : Int32) (x2p4 : Int32) : Prop := ((p1 ≤ x2p4 → True) ∧ (¬ (p1 ≤ x2p4) → (((9 : Int32) ≤ x2p4 → True) ∧ (¬ ((9 : Int32) ≤ x2p4) → lett (x1p4 * (10 : Int32)) fun (v3 : Int32) => lett (x2p4 + (1 : Int32)) fun (v4 : Int32) => q4 v3 v4))))
noncomputable def sp_Pa_tenTo_4 (p1 : Int32)  : Nat → Int32 → Int32 → Int32
  | 0 => fun _ _ => default
  | f + 1 => bd_Pa_tenTo_4 p1  (sp_Pa_tenTo_4 p1  f)
def ok_Pa_tenTo_4 (p1 : Int32)   : Nat → Int32 → Int32 → Prop
  | 0 => fun _ _ => False
  | f + 1 => okb_Pa_tenTo_4 p1  (sp_Pa_tenTo_4 p1  f)  (ok_Pa_tenTo_4 p1   f)
set_option maxRecDepth 100000 in
set_option maxHeartbeats 4000000 in
theorem kb_Pa_tenTo_4 {p : Program} {l : Launch} {e : Env} {s : State} {m : MethodId} {args : Array Value} {below : List Frame} {meth : Method} {c : Code} {g : GX}  {p1 : Int32}  (C : Cx p s m args meth c (inW (wNil g )) g "DecadeBridge$Parts" b_Pa_tenTo (some .int) 3) {r4 : Int32 → Int32 → Int32} {q4 : Int32 → Int32 → Prop}  (ih4 : HL_Pa_tenTo_4 p l e s m args below meth c g  p1 r4 q4) : HL_Pa_tenTo_4 p l e s m args below meth c g  p1 (bd_Pa_tenTo_4 p1  r4) (okb_Pa_tenTo_4 p1  r4  q4) := by
  intro x1p4 x2p4 hok z hz H locs ls hP hD hS hl
  obtain ⟨hx, hb, hr, hml, hown, hlk, hts, hK, hZo, hZ⟩ := id C
  unfold bd_Pa_tenTo_4 at hz
  unfold okb_Pa_tenTo_4 at hok
  refine lv_iload_n hx hb d_Pa_tenTo_4 rfl (lv_at hl 2 rfl) ?_
  refine lv_iload_n hx hb d_Pa_tenTo_5 rfl (lv_at hl 0 rfl) ?_
  refine lv_icmp_ge (tgt := 26) hx hb d_Pa_tenTo_6 (by decide) (fun c1 => ?_) (fun c1 => ?_)
  · have hz := hz.trans (if_pos c1)
    refine lv_iload_n hx hb d_Pa_tenTo_26 rfl (lv_at hl 1 rfl) ?_
    exact endI0 C hz hP hS d_Pa_tenTo_27
  · have hz := hz.trans (if_neg c1)
    have hok := hok.2 c1
    refine lv_iload_n hx hb d_Pa_tenTo_9 rfl (lv_at hl 2 rfl) ?_
    refine lv_bipush (v := 9) hx hb d_Pa_tenTo_10 (by decide) ?_
    refine lv_icmp_ge (tgt := 26) hx hb d_Pa_tenTo_12 (by decide) (fun c2 => ?_) (fun c2 => ?_)
    · have hz := hz.trans (if_pos c2)
      refine lv_iload_n hx hb d_Pa_tenTo_26 rfl (lv_at hl 1 rfl) ?_
      exact endI0 C hz hP hS d_Pa_tenTo_27
    · have hz := hz.trans (if_neg c2)
      have hok := hok.2 c2
      refine lv_iload_n hx hb d_Pa_tenTo_15 rfl (lv_at hl 1 rfl) ?_
      refine lv_bipush (v := 10) hx hb d_Pa_tenTo_16 (by decide) ?_
      refine lv_imul hx hb d_Pa_tenTo_18 ?_
      refine lv_topi (fun v3 ev3 => ?_)
      have hz := lett_z hz ev3
      have hok := lett_o hok ev3
      refine lv_istore_n (lv' := [(1, .int v3), (0, .int p1), (2, .int x2p4)]) hx hb d_Pa_tenTo_19 rfl hl (by decide) rfl (fun ls hl => ?_)
      obtain ⟨v4, ev4⟩ : ∃ y : Int32, y = x2p4 + (1 : Int32) := ⟨_, rfl⟩
      have hz := lett_z hz ev4
      have hok := lett_o hok ev4
      refine lv_iinc (v := v4) (lv' := [(2, .int v4), (1, .int v3), (0, .int p1)]) hx hb d_Pa_tenTo_20 hl (k := 2) rfl (by rw [ev4]; rfl) (by decide) rfl (fun ls hl => ?_)
      refine lv_goto (tgt := 4) hx hb d_Pa_tenTo_23 (by decide) ?_
      exact ih4 v3 v4 hok _ hz _ _ ls hP hD hS (lv_sub hl [2, 1, 0] rfl)
theorem k_Pa_tenTo_4 {p : Program} {l : Launch} {e : Env} {s : State} {m : MethodId} {args : Array Value} {below : List Frame} {meth : Method} {c : Code} {g : GX}  {p1 : Int32}  (C : Cx p s m args meth c (inW (wNil g )) g "DecadeBridge$Parts" b_Pa_tenTo (some .int) 3) (f : Nat)  : HL_Pa_tenTo_4 p l e s m args below meth c g  p1 (sp_Pa_tenTo_4 p1  f) (ok_Pa_tenTo_4 p1   f) := by
  induction f with
  | zero => intro x1p4 x2p4 hok; exact False.elim hok
  | succ f ih => exact kb_Pa_tenTo_4 C  ih
noncomputable def sp_Pa_tenTo (p1 : Int32) : Int32 := sp_Pa_tenTo_4 p1 big (1 : Int32) (0 : Int32)
def ok_Pa_tenTo (p1 : Int32) : Prop := ok_Pa_tenTo_4 p1 big (1 : Int32) (0 : Int32)
set_option maxRecDepth 100000 in
set_option maxHeartbeats 4000000 in
theorem c_Pa_tenTo (l : Launch) (g : GX)   (p1 : Int32) (hok : ok_Pa_tenTo p1) : Met l y_Pa_tenTo (wsY y_Pa_tenTo b_Pa_tenTo 3 (some .int)) rm_Pa_tenTo (CP g [.int p1] (wNil g )) (CI0 g (wNil g ) (sp_Pa_tenTo p1)) 0 0 (inW (wNil g )) := by
  refine Met.ofW (cc := b_Pa_tenTo) (maxL := 3) (ret := (some .int)) pn_Pa rfl ?_
  intro p e s m args below meth c s₁ B hml hv
  obtain ⟨rfl, C, hP, hD, hS⟩ := enter "DecadeBridge$Parts" rfl B hml hv
  obtain ⟨hx, hb, hr, hml, hown, hlk, hts, hK, hZo, hZ⟩ := id C
  refine entryW (lv := [(0, .int p1)]) rfl (Nat.le_of_ble_eq_true rfl) (fun ls hl => ?_)
  obtain ⟨z, hz⟩ : ∃ z, z = sp_Pa_tenTo p1 := ⟨_, rfl⟩
  rw [← hz]
  unfold sp_Pa_tenTo at hz
  unfold ok_Pa_tenTo at hok
  refine lv_iconst (v := 1) hx hb d_Pa_tenTo_0 (by decide) ?_
  refine lv_istore_n (lv' := [(1, .int (1 : Int32)), (0, .int p1)]) hx hb d_Pa_tenTo_1 rfl hl (by decide) rfl (fun ls hl => ?_)
  refine lv_iconst (v := 0) hx hb d_Pa_tenTo_2 (by decide) ?_
  refine lv_istore_n (lv' := [(2, .int (0 : Int32)), (1, .int (1 : Int32)), (0, .int p1)]) hx hb d_Pa_tenTo_3 rfl hl (by decide) rfl (fun ls hl => ?_)
  exact k_Pa_tenTo_4 C big (1 : Int32) (0 : Int32) hok _ hz _ _ ls hP hD hS (lv_sub hl [2, 1, 0] rfl)
abbrev rm_Pa_nominalOf : Room := { frames := 0, cells := 0, slots := 0, locals := 0 }
def HL_Pa_nominalOf_20 (p : Program) (l : Launch) (e : Env) (s : State) (m : MethodId) (args : Array Value) (below : List Frame) (meth : Method) (c : Code) (g : GX)   (sp : Int32) (ok : Prop) : Prop := ∀ (_ : Unit), ok → ∀ z : Int32, z = sp → ∀ (H : Heap) (locs : List Loc) (ls : Array Slot), va_P g.1 vwCl (wNil g ) H → va_D (inW (wNil g )) (wNil g ) → va_S (inW (wNil g )) s.heap H locs → lv_has ls 1 [] → W p l e rm_Pa_nominalOf s m args below meth c H locs 0 0 (MQ below (CI0 g (wNil g ) z) args s 0 0 (inW (wNil g ))) (F0 m 20 ls [])
noncomputable def sp_Pa_nominalOf_20    : Int32 := (0 : Int32)
def ok_Pa_nominalOf_20     : Prop := True
set_option maxRecDepth 100000 in
set_option maxHeartbeats 4000000 in
theorem k_Pa_nominalOf_20 {p : Program} {l : Launch} {e : Env} {s : State} {m : MethodId} {args : Array Value} {below : List Frame} {meth : Method} {c : Code} {g : GX}    (C : Cx p s m args meth c (inW (wNil g )) g "DecadeBridge$Parts" b_Pa_nominalOf (some .int) 1)  : HL_Pa_nominalOf_20 p l e s m args below meth c g   (sp_Pa_nominalOf_20  ) (ok_Pa_nominalOf_20   ) := by
  intro _ hok z hz H locs ls hP hD hS hl
  obtain ⟨hx, hb, hr, hml, hown, hlk, hts, hK, hZo, hZ⟩ := id C
  unfold sp_Pa_nominalOf_20 at hz
  refine lv_iconst (v := 0) hx hb d_Pa_nominalOf_20 (by decide) ?_
  exact endI0 C hz hP hS d_Pa_nominalOf_21
noncomputable def sp_Pa_nominalOf (p1 : Int32) : Int32 := if p1 < 0 then (sp_Pa_nominalOf_20) else (if (5 : Int32) ≤ p1 then (sp_Pa_nominalOf_20) else (nomF p1.toNatClampNeg))
set_option maxRecDepth 100000 in
set_option maxHeartbeats 4000000 in
theorem c_Pa_nominalOf (l : Launch) (g : GX)   (p1 : Int32) : Met l y_Pa_nominalOf (wsY y_Pa_nominalOf b_Pa_nominalOf 1 (some .int)) rm_Pa_nominalOf (CP g [.int p1] (wNil g )) (CI0 g (wNil g ) (sp_Pa_nominalOf p1)) 0 0 (inW (wNil g )) := by
  refine Met.ofW (cc := b_Pa_nominalOf) (maxL := 1) (ret := (some .int)) pn_Pa rfl ?_
  intro p e s m args below meth c s₁ B hml hv
  obtain ⟨rfl, C, hP, hD, hS⟩ := enter "DecadeBridge$Parts" rfl B hml hv
  obtain ⟨hx, hb, hr, hml, hown, hlk, hts, hK, hZo, hZ⟩ := id C
  refine entryW (lv := [(0, .int p1)]) rfl (Nat.le_of_ble_eq_true rfl) (fun ls hl => ?_)
  obtain ⟨z, hz⟩ : ∃ z, z = sp_Pa_nominalOf p1 := ⟨_, rfl⟩
  rw [← hz]
  unfold sp_Pa_nominalOf at hz
  refine lv_iload_n hx hb d_Pa_nominalOf_0 rfl (lv_at hl 0 rfl) ?_
  refine lv_if_lt (tgt := 20) hx hb d_Pa_nominalOf_1 (by decide) (fun c1 => ?_) (fun c1 => ?_)
  · have hz := hz.trans (if_pos c1)
    exact k_Pa_nominalOf_20 C () trivial _ hz _ _ ls hP hD hS (lv_sub hl [] rfl)
  · have hz := hz.trans (if_neg c1)
    refine lv_iload_n hx hb d_Pa_nominalOf_4 rfl (lv_at hl 0 rfl) ?_
    refine va_gets hx hb (zNom hZo hZ).1 hS hown (hts _ qf_Pa_88) (fun _ h9 => h9) d_Pa_nominalOf_5 ?_
    refine va_tlen hx hb (zNom hZo hZ).2 hS (v := 5) (by decide) d_Pa_nominalOf_8 ?_
    refine lv_icmp_ge (tgt := 20) hx hb d_Pa_nominalOf_9 (by decide) (fun c2 => ?_) (fun c2 => ?_)
    · have hz := hz.trans (if_pos c2)
      exact k_Pa_nominalOf_20 C () trivial _ hz _ _ ls hP hD hS (lv_sub hl [] rfl)
    · have hz := hz.trans (if_neg c2)
      refine va_gets hx hb (zNom hZo hZ).1 hS hown (hts _ qf_Pa_88) (fun _ h9 => h9) d_Pa_nominalOf_12 ?_
      refine lv_iload_n hx hb d_Pa_nominalOf_15 rfl (lv_at hl 0 rfl) ?_
      refine va_ti hx hb (zNom hZo hZ).2 hS (vi2 (vlo c1) (vhi c2) (by decide)) (v := .int (nomF p1.toNatClampNeg)) rfl d_Pa_nominalOf_16 ?_
      refine lv_goto (tgt := 21) hx hb d_Pa_nominalOf_17 (by decide) ?_
      exact endI0 C hz hP hS d_Pa_nominalOf_21
abbrev rm_Pa_settings : Room := { frames := 1, cells := 0, slots := 0, locals := 22 }
noncomputable def sp_Pa_settings (w0 : IV) : Int32 := lett (sp_Pa_tenTo (w0 0)) fun (y2 : Int32) => y2
def ok_Pa_settings (w0 : IV) : Prop := (ok_Pa_tenTo (w0 0)) ∧ True
set_option maxRecDepth 100000 in
set_option maxHeartbeats 4000000 in
theorem c_Pa_settings (l : Launch) (g : GX) (qpa : Nat) (qpae : Nat) (qpar : Nat) (qpau : Nat) (qpab : Nat) (w0 : IV) (w1 : IV) (w2 : IV) (w3 : IV) (w4 : IV)  (hok : ok_Pa_settings w0) : Met l y_Pa_settings (wsY y_Pa_settings b_Pa_settings 1 (some .int)) rm_Pa_settings (CP g [.ref qpa] (wPa g qpa qpae qpar qpau qpab w0 w1 w2 w3 w4)) (CI0 g (wPa g qpa qpae qpar qpau qpab w0 w1 w2 w3 w4) (sp_Pa_settings w0)) 0 0 (inW (wPa g qpa qpae qpar qpau qpab w0 w1 w2 w3 w4)) := by
  refine Met.ofW (cc := b_Pa_settings) (maxL := 1) (ret := (some .int)) pn_Pa rfl ?_
  intro p e s m args below meth c s₁ B hml hv
  obtain ⟨rfl, C, hP, hD, hS⟩ := enter "DecadeBridge$Parts" rfl B hml hv
  obtain ⟨hx, hb, hr, hml, hown, hlk, hts, hK, hZo, hZ⟩ := id C
  refine entryW (lv := [(0, .ref qpa)]) rfl (Nat.le_of_ble_eq_true rfl) (fun ls hl => ?_)
  obtain ⟨z, hz⟩ : ∃ z, z = sp_Pa_settings w0 := ⟨_, rfl⟩
  rw [← hz]
  unfold sp_Pa_settings at hz
  unfold ok_Pa_settings at hok
  refine lv_aload_n hx hb d_Pa_settings_0 rfl (lv_at hl 0 rfl) ?_
  refine gf C hP 0 0 fkPa rfl (by decide) rfl qf_Pa_31 (gPa_0 _ _ _ _ _) d_Pa_settings_1 ?_
  have hs1 := hok.1
  have hok := hok.2
  have hB : SubW g (inW (wPa g qpa qpae qpar qpau qpab w0 w1 w2 w3 w4)) s (wPa g qpa qpae qpar qpau qpab w0 w1 w2 w3 w4) (wNil g ) [] _ _ := ⟨rfl, rfl, hP, hD, hS⟩
  refine goI0 hB (run_s C mf_Pa_tenTo qm_Pa_91 (c_Pa_tenTo l g (w0 0) hs1) rfl rfl ⟨Nat.le_of_ble_eq_true rfl, Nat.le_of_ble_eq_true rfl⟩ ⟨Nat.le_of_ble_eq_true rfl, Nat.le_of_ble_eq_true rfl⟩ hB hl rfl rfl (Nat.le_of_ble_eq_true rfl) d_Pa_settings_4) (fun y2 ey2 H locs hP hS => ?_)
  have hz := lett_z hz ey2
  exact endI0 C hz hP hS d_Pa_settings_7
abbrev rm_Pa_weightOf : Room := { frames := 1, cells := 0, slots := 0, locals := 22 }
noncomputable def sp_Pa_weightOf (p1 : Int32) (w0 : IV) : Int32 := lett (sp_Pa_tenTo (((w0 0) - (1 : Int32)) - p1)) fun (y2 : Int32) => y2
def ok_Pa_weightOf (p1 : Int32) (w0 : IV) : Prop := (ok_Pa_tenTo (((w0 0) - (1 : Int32)) - p1)) ∧ True
set_option maxRecDepth 100000 in
set_option maxHeartbeats 4000000 in
theorem c_Pa_weightOf (l : Launch) (g : GX) (qpa : Nat) (qpae : Nat) (qpar : Nat) (qpau : Nat) (qpab : Nat) (w0 : IV) (w1 : IV) (w2 : IV) (w3 : IV) (w4 : IV) (p1 : Int32) (hok : ok_Pa_weightOf p1 w0) : Met l y_Pa_weightOf (wsY y_Pa_weightOf b_Pa_weightOf 2 (some .int)) rm_Pa_weightOf (CP g [.ref qpa, .int p1] (wPa g qpa qpae qpar qpau qpab w0 w1 w2 w3 w4)) (CI0 g (wPa g qpa qpae qpar qpau qpab w0 w1 w2 w3 w4) (sp_Pa_weightOf p1 w0)) 0 0 (inW (wPa g qpa qpae qpar qpau qpab w0 w1 w2 w3 w4)) := by
  refine Met.ofW (cc := b_Pa_weightOf) (maxL := 2) (ret := (some .int)) pn_Pa rfl ?_
  intro p e s m args below meth c s₁ B hml hv
  obtain ⟨rfl, C, hP, hD, hS⟩ := enter "DecadeBridge$Parts" rfl B hml hv
  obtain ⟨hx, hb, hr, hml, hown, hlk, hts, hK, hZo, hZ⟩ := id C
  refine entryW (lv := [(0, .ref qpa), (1, .int p1)]) rfl (Nat.le_of_ble_eq_true rfl) (fun ls hl => ?_)
  obtain ⟨z, hz⟩ : ∃ z, z = sp_Pa_weightOf p1 w0 := ⟨_, rfl⟩
  rw [← hz]
  unfold sp_Pa_weightOf at hz
  unfold ok_Pa_weightOf at hok
  refine lv_aload_n hx hb d_Pa_weightOf_0 rfl (lv_at hl 0 rfl) ?_
  refine gf C hP 0 0 fkPa rfl (by decide) rfl qf_Pa_31 (gPa_0 _ _ _ _ _) d_Pa_weightOf_1 ?_
  refine lv_iconst (v := 1) hx hb d_Pa_weightOf_4 (by decide) ?_
  refine lv_isub hx hb d_Pa_weightOf_5 ?_
  refine lv_iload_n hx hb d_Pa_weightOf_6 rfl (lv_at hl 1 rfl) ?_
  refine lv_isub hx hb d_Pa_weightOf_7 ?_
  have hs1 := hok.1
  have hok := hok.2
  have hB : SubW g (inW (wPa g qpa qpae qpar qpau qpab w0 w1 w2 w3 w4)) s (wPa g qpa qpae qpar qpau qpab w0 w1 w2 w3 w4) (wNil g ) [] _ _ := ⟨rfl, rfl, hP, hD, hS⟩
  refine goI0 hB (run_s C mf_Pa_tenTo qm_Pa_91 (c_Pa_tenTo l g (((w0 0) - (1 : Int32)) - p1) hs1) rfl rfl ⟨Nat.le_of_ble_eq_true rfl, Nat.le_of_ble_eq_true rfl⟩ ⟨Nat.le_of_ble_eq_true rfl, Nat.le_of_ble_eq_true rfl⟩ hB hl rfl rfl (Nat.le_of_ble_eq_true rfl) d_Pa_weightOf_8) (fun y2 ey2 H locs hP hS => ?_)
  have hz := lett_z hz ey2
  exact endI0 C hz hP hS d_Pa_weightOf_11
abbrev rm_Pa_stepOf : Room := { frames := 2, cells := 0, slots := 0, locals := 43 }
noncomputable def sp_Pa_stepOf (p1 : Int32) (w0 : IV) : Int32 := lett (sp_Pa_weightOf p1 w0) fun (y2 : Int32) => (w0 1) * y2
def ok_Pa_stepOf (p1 : Int32) (w0 : IV) : Prop := (ok_Pa_weightOf p1 w0) ∧ True
set_option maxRecDepth 100000 in
set_option maxHeartbeats 4000000 in
theorem c_Pa_stepOf (l : Launch) (g : GX) (qpa : Nat) (qpae : Nat) (qpar : Nat) (qpau : Nat) (qpab : Nat) (w0 : IV) (w1 : IV) (w2 : IV) (w3 : IV) (w4 : IV) (p1 : Int32) (hok : ok_Pa_stepOf p1 w0) : Met l y_Pa_stepOf (wsY y_Pa_stepOf b_Pa_stepOf 2 (some .int)) rm_Pa_stepOf (CP g [.ref qpa, .int p1] (wPa g qpa qpae qpar qpau qpab w0 w1 w2 w3 w4)) (CI0 g (wPa g qpa qpae qpar qpau qpab w0 w1 w2 w3 w4) (sp_Pa_stepOf p1 w0)) 0 0 (inW (wPa g qpa qpae qpar qpau qpab w0 w1 w2 w3 w4)) := by
  refine Met.ofW (cc := b_Pa_stepOf) (maxL := 2) (ret := (some .int)) pn_Pa rfl ?_
  intro p e s m args below meth c s₁ B hml hv
  obtain ⟨rfl, C, hP, hD, hS⟩ := enter "DecadeBridge$Parts" rfl B hml hv
  obtain ⟨hx, hb, hr, hml, hown, hlk, hts, hK, hZo, hZ⟩ := id C
  refine entryW (lv := [(0, .ref qpa), (1, .int p1)]) rfl (Nat.le_of_ble_eq_true rfl) (fun ls hl => ?_)
  obtain ⟨z, hz⟩ : ∃ z, z = sp_Pa_stepOf p1 w0 := ⟨_, rfl⟩
  rw [← hz]
  unfold sp_Pa_stepOf at hz
  unfold ok_Pa_stepOf at hok
  refine lv_aload_n hx hb d_Pa_stepOf_0 rfl (lv_at hl 0 rfl) ?_
  refine gf C hP 0 1 fkPa rfl (by decide) rfl qf_Pa_35 (gPa_1 _ _ _ _ _) d_Pa_stepOf_1 ?_
  refine lv_aload_n hx hb d_Pa_stepOf_4 rfl (lv_at hl 0 rfl) ?_
  refine lv_iload_n hx hb d_Pa_stepOf_5 rfl (lv_at hl 1 rfl) ?_
  have hs1 := hok.1
  have hok := hok.2
  have hB : SubW g (inW (wPa g qpa qpae qpar qpau qpab w0 w1 w2 w3 w4)) s (wPa g qpa qpae qpar qpau qpab w0 w1 w2 w3 w4) _ (List.range _) _ _ := (subF hP hD hS)
  refine goI0 hB (run_v C mf_Pa_weightOf qm_Pa_94 (c_Pa_weightOf l g qpa qpae qpar qpau qpab w0 w1 w2 w3 w4 p1 hs1) rfl rfl ⟨Nat.le_of_ble_eq_true rfl, Nat.le_of_ble_eq_true rfl⟩ ⟨Nat.le_of_ble_eq_true rfl, Nat.le_of_ble_eq_true rfl⟩ hB rfl rfl hl rfl rfl (Nat.le_of_ble_eq_true rfl) d_Pa_stepOf_6) (fun y2 ey2 H locs hP hS => ?_)
  have hz := lett_z hz ey2
  refine lv_imul hx hb d_Pa_stepOf_9 ?_
  exact endI0 C hz hP hS d_Pa_stepOf_10
abbrev rm_Pa_digitOf : Room := { frames := 2, cells := 0, slots := 0, locals := 43 }
noncomputable def sp_Pa_digitOf (p1 : Int32) (p2 : Int32) (w0 : IV) : Int32 := lett (sp_Pa_weightOf p2 w0) fun (y2 : Int32) => if (1 : Int32) ≤ y2 then ((p1 / y2) - (p1 / y2) / (10 : Int32) * (10 : Int32)) else ((0 : Int32))
def ok_Pa_digitOf (p1 : Int32) (p2 : Int32) (w0 : IV) : Prop := (ok_Pa_weightOf p2 w0) ∧ lett (sp_Pa_weightOf p2 w0) fun (y2 : Int32) => (((1 : Int32) ≤ y2 → (¬ y2 = 0) ∧ True) ∧ (¬ ((1 : Int32) ≤ y2) → True))
set_option maxRecDepth 100000 in
set_option maxHeartbeats 4000000 in
theorem c_Pa_digitOf (l : Launch) (g : GX) (qpa : Nat) (qpae : Nat) (qpar : Nat) (qpau : Nat) (qpab : Nat) (w0 : IV) (w1 : IV) (w2 : IV) (w3 : IV) (w4 : IV) (p1 : Int32) (p2 : Int32) (hok : ok_Pa_digitOf p1 p2 w0) : Met l y_Pa_digitOf (wsY y_Pa_digitOf b_Pa_digitOf 4 (some .int)) rm_Pa_digitOf (CP g [.ref qpa, .int p1, .int p2] (wPa g qpa qpae qpar qpau qpab w0 w1 w2 w3 w4)) (CI0 g (wPa g qpa qpae qpar qpau qpab w0 w1 w2 w3 w4) (sp_Pa_digitOf p1 p2 w0)) 0 0 (inW (wPa g qpa qpae qpar qpau qpab w0 w1 w2 w3 w4)) := by
  refine Met.ofW (cc := b_Pa_digitOf) (maxL := 4) (ret := (some .int)) pn_Pa rfl ?_
  intro p e s m args below meth c s₁ B hml hv
  obtain ⟨rfl, C, hP, hD, hS⟩ := enter "DecadeBridge$Parts" rfl B hml hv
  obtain ⟨hx, hb, hr, hml, hown, hlk, hts, hK, hZo, hZ⟩ := id C
  refine entryW (lv := [(0, .ref qpa), (1, .int p1), (2, .int p2)]) rfl (Nat.le_of_ble_eq_true rfl) (fun ls hl => ?_)
  obtain ⟨z, hz⟩ : ∃ z, z = sp_Pa_digitOf p1 p2 w0 := ⟨_, rfl⟩
  rw [← hz]
  unfold sp_Pa_digitOf at hz
  unfold ok_Pa_digitOf at hok
  refine lv_aload_n hx hb d_Pa_digitOf_0 rfl (lv_at hl 0 rfl) ?_
  refine lv_iload_n hx hb d_Pa_digitOf_1 rfl (lv_at hl 2 rfl) ?_
  have hs1 := hok.1
  have hok := hok.2
  have hB : SubW g (inW (wPa g qpa qpae qpar qpau qpab w0 w1 w2 w3 w4)) s (wPa g qpa qpae qpar qpau qpab w0 w1 w2 w3 w4) _ (List.range _) _ _ := (subF hP hD hS)
  refine goI0 hB (run_v C mf_Pa_weightOf qm_Pa_94 (c_Pa_weightOf l g qpa qpae qpar qpau qpab w0 w1 w2 w3 w4 p2 hs1) rfl rfl ⟨Nat.le_of_ble_eq_true rfl, Nat.le_of_ble_eq_true rfl⟩ ⟨Nat.le_of_ble_eq_true rfl, Nat.le_of_ble_eq_true rfl⟩ hB rfl rfl hl rfl rfl (Nat.le_of_ble_eq_true rfl) d_Pa_digitOf_2) (fun y2 ey2 H locs hP hS => ?_)
  have hz := lett_z hz ey2
  have hok := lett_o hok ey2
  refine lv_istore_n (lv' := [(3, .int y2), (0, .ref qpa), (1, .int p1), (2, .int p2)]) hx hb d_Pa_digitOf_5 rfl hl (by decide) rfl (fun ls hl => ?_)
  refine lv_iload_n hx hb d_Pa_digitOf_6 rfl (lv_at hl 0 rfl) ?_
  refine lv_iconst (v := 1) hx hb d_Pa_digitOf_7 (by decide) ?_
  refine lv_icmp_ge (tgt := 15) hx hb d_Pa_digitOf_8 (by decide) (fun c3 => ?_) (fun c3 => ?_)
  · have hz := hz.trans (if_pos c3)
    have hok := hok.1 c3
    refine lv_iload_n hx hb d_Pa_digitOf_15 rfl (lv_at hl 2 rfl) ?_
    refine lv_iload_n hx hb d_Pa_digitOf_16 rfl (lv_at hl 0 rfl) ?_
    have hs4 := hok.1
    have hok := hok.2
    refine lv_idiv hx hb d_Pa_digitOf_17 hs4 ?_
    refine lv_bipush (v := 10) hx hb d_Pa_digitOf_18 (by decide) ?_
    refine lv_irem hx hb d_Pa_digitOf_20 (by decide) ?_
    exact endI0 C hz hP hS d_Pa_digitOf_21
  · have hz := hz.trans (if_neg c3)
    refine lv_iconst (v := 0) hx hb d_Pa_digitOf_11 (by decide) ?_
    refine lv_goto (tgt := 21) hx hb d_Pa_digitOf_12 (by decide) ?_
    exact endI0 C hz hP hS d_Pa_digitOf_21
abbrev rm_Pa_errorOfDecade : Room := { frames := 0, cells := 0, slots := 0, locals := 0 }
def HL_Pa_errorOfDecade_22 (p : Program) (l : Launch) (e : Env) (s : State) (m : MethodId) (args : Array Value) (below : List Frame) (meth : Method) (c : Code) (g : GX) (qpa : Nat) (qpae : Nat) (qpar : Nat) (qpau : Nat) (qpab : Nat) (w0 : IV) (w1 : IV) (w2 : IV) (w3 : IV) (w4 : IV) (sp : Int32) (ok : Prop) : Prop := ∀ (_ : Unit), ok → ∀ z : Int32, z = sp → ∀ (H : Heap) (locs : List Loc) (ls : Array Slot), va_P g.1 vwCl (wPa g qpa qpae qpar qpau qpab w0 w1 w2 w3 w4) H → va_D (inW (wPa g qpa qpae qpar qpau qpab w0 w1 w2 w3 w4)) (wPa g qpa qpae qpar qpau qpab w0 w1 w2 w3 w4) → va_S (inW (wPa g qpa qpae qpar qpau qpab w0 w1 w2 w3 w4)) s.heap H locs → lv_has ls 2 [] → W p l e rm_Pa_errorOfDecade s m args below meth c H locs 0 0 (MQ below (CI0 g (wPa g qpa qpae qpar qpau qpab w0 w1 w2 w3 w4) z) args s 0 0 (inW (wPa g qpa qpae qpar qpau qpab w0 w1 w2 w3 w4))) (F0 m 22 ls [])
noncomputable def sp_Pa_errorOfDecade_22    : Int32 := (0 : Int32)
def ok_Pa_errorOfDecade_22     : Prop := True
set_option maxRecDepth 100000 in
set_option maxHeartbeats 4000000 in
theorem k_Pa_errorOfDecade_22 {p : Program} {l : Launch} {e : Env} {s : State} {m : MethodId} {args : Array Value} {below : List Frame} {meth : Method} {c : Code} {g : GX} {qpa : Nat} {qpae : Nat} {qpar : Nat} {qpau : Nat} {qpab : Nat} {w0 : IV} {w1 : IV} {w2 : IV} {w3 : IV} {w4 : IV}  (C : Cx p s m args meth c (inW (wPa g qpa qpae qpar qpau qpab w0 w1 w2 w3 w4)) g "DecadeBridge$Parts" b_Pa_errorOfDecade (some .int) 2)  : HL_Pa_errorOfDecade_22 p l e s m args below meth c g qpa qpae qpar qpau qpab w0 w1 w2 w3 w4 (sp_Pa_errorOfDecade_22  ) (ok_Pa_errorOfDecade_22   ) := by
  intro _ hok z hz H locs ls hP hD hS hl
  obtain ⟨hx, hb, hr, hml, hown, hlk, hts, hK, hZo, hZ⟩ := id C
  unfold sp_Pa_errorOfDecade_22 at hz
  refine lv_iconst (v := 0) hx hb d_Pa_errorOfDecade_22 (by decide) ?_
  exact endI0 C hz hP hS d_Pa_errorOfDecade_23
noncomputable def sp_Pa_errorOfDecade (p1 : Int32) (w1 : IV) : Int32 := if p1 < 0 then (sp_Pa_errorOfDecade_22) else (if (4 : Int32) ≤ p1 then (sp_Pa_errorOfDecade_22) else (w1 p1.toNatClampNeg))
set_option maxRecDepth 100000 in
set_option maxHeartbeats 4000000 in
theorem c_Pa_errorOfDecade (l : Launch) (g : GX) (qpa : Nat) (qpae : Nat) (qpar : Nat) (qpau : Nat) (qpab : Nat) (w0 : IV) (w1 : IV) (w2 : IV) (w3 : IV) (w4 : IV) (p1 : Int32) : Met l y_Pa_errorOfDecade (wsY y_Pa_errorOfDecade b_Pa_errorOfDecade 2 (some .int)) rm_Pa_errorOfDecade (CP g [.ref qpa, .int p1] (wPa g qpa qpae qpar qpau qpab w0 w1 w2 w3 w4)) (CI0 g (wPa g qpa qpae qpar qpau qpab w0 w1 w2 w3 w4) (sp_Pa_errorOfDecade p1 w1)) 0 0 (inW (wPa g qpa qpae qpar qpau qpab w0 w1 w2 w3 w4)) := by
  refine Met.ofW (cc := b_Pa_errorOfDecade) (maxL := 2) (ret := (some .int)) pn_Pa rfl ?_
  intro p e s m args below meth c s₁ B hml hv
  obtain ⟨rfl, C, hP, hD, hS⟩ := enter "DecadeBridge$Parts" rfl B hml hv
  obtain ⟨hx, hb, hr, hml, hown, hlk, hts, hK, hZo, hZ⟩ := id C
  refine entryW (lv := [(0, .ref qpa), (1, .int p1)]) rfl (Nat.le_of_ble_eq_true rfl) (fun ls hl => ?_)
  obtain ⟨z, hz⟩ : ∃ z, z = sp_Pa_errorOfDecade p1 w1 := ⟨_, rfl⟩
  rw [← hz]
  unfold sp_Pa_errorOfDecade at hz
  refine lv_iload_n hx hb d_Pa_errorOfDecade_0 rfl (lv_at hl 1 rfl) ?_
  refine lv_if_lt (tgt := 22) hx hb d_Pa_errorOfDecade_1 (by decide) (fun c1 => ?_) (fun c1 => ?_)
  · have hz := hz.trans (if_pos c1)
    exact k_Pa_errorOfDecade_22 C () trivial _ hz _ _ ls hP hD hS (lv_sub hl [] rfl)
  · have hz := hz.trans (if_neg c1)
    refine lv_iload_n hx hb d_Pa_errorOfDecade_4 rfl (lv_at hl 1 rfl) ?_
    refine lv_aload_n hx hb d_Pa_errorOfDecade_5 rfl (lv_at hl 0 rfl) ?_
    refine gf C hP 0 3 fkPa rfl (by decide) rfl qf_Pa_9 (gPa_3 _ _ _ _ _) d_Pa_errorOfDecade_6 ?_
    refine alen C hP 1 rfl (t0 := 0) rfl (v := 4) (by decide) d_Pa_errorOfDecade_9 ?_
    refine lv_icmp_ge (tgt := 22) hx hb d_Pa_errorOfDecade_10 (by decide) (fun c2 => ?_) (fun c2 => ?_)
    · have hz := hz.trans (if_pos c2)
      exact k_Pa_errorOfDecade_22 C () trivial _ hz _ _ ls hP hD hS (lv_sub hl [] rfl)
    · have hz := hz.trans (if_neg c2)
      refine lv_aload_n hx hb d_Pa_errorOfDecade_13 rfl (lv_at hl 0 rfl) ?_
      refine gf C hP 0 3 fkPa rfl (by decide) rfl qf_Pa_9 (gPa_3 _ _ _ _ _) d_Pa_errorOfDecade_14 ?_
      refine lv_iload_n hx hb d_Pa_errorOfDecade_17 rfl (lv_at hl 1 rfl) ?_
      refine ldI C hP 1 rfl (vi2 (vlo c1) (vhi c2) (by decide)) rfl d_Pa_errorOfDecade_18 ?_
      refine lv_goto (tgt := 23) hx hb d_Pa_errorOfDecade_19 (by decide) ?_
      exact endI0 C hz hP hS d_Pa_errorOfDecade_23
abbrev rm_Pa_setErrorOfDecade : Room := { frames := 0, cells := 0, slots := 0, locals := 0 }
noncomputable def sp_Pa_setErrorOfDecade (p1 : Int32) (p2 : Int32) (w1 : IV) : IV := if p1 < 0 then (w1) else (if (4 : Int32) ≤ p1 then (w1) else (lett (upd w1 p1.toNatClampNeg p2) fun (w_3 : IV) => w_3))
set_option maxRecDepth 100000 in
set_option maxHeartbeats 4000000 in
theorem c_Pa_setErrorOfDecade (l : Launch) (g : GX) (qpa : Nat) (qpae : Nat) (qpar : Nat) (qpau : Nat) (qpab : Nat) (w0 : IV) (w1 : IV) (w2 : IV) (w3 : IV) (w4 : IV) (p1 : Int32) (p2 : Int32) : Met l y_Pa_setErrorOfDecade (wsY y_Pa_setErrorOfDecade b_Pa_setErrorOfDecade 3 none) rm_Pa_setErrorOfDecade (CP g [.ref qpa, .int p1, .int p2] (wPa g qpa qpae qpar qpau qpab w0 w1 w2 w3 w4)) (CV g (wPa g qpa qpae qpar qpau qpab w0 w1 w2 w3 w4) (fun u : IV => wPa g qpa qpae qpar qpau qpab w0 u w2 w3 w4) (sp_Pa_setErrorOfDecade p1 p2 w1)) 0 0 (inW (wPa g qpa qpae qpar qpau qpab w0 w1 w2 w3 w4)) := by
  refine Met.ofW (cc := b_Pa_setErrorOfDecade) (maxL := 3) (ret := none) pn_Pa rfl ?_
  intro p e s m args below meth c s₁ B hml hv
  obtain ⟨rfl, C, hP, hD, hS⟩ := enter "DecadeBridge$Parts" rfl B hml hv
  obtain ⟨hx, hb, hr, hml, hown, hlk, hts, hK, hZo, hZ⟩ := id C
  refine entryW (lv := [(0, .ref qpa), (1, .int p1), (2, .int p2)]) rfl (Nat.le_of_ble_eq_true rfl) (fun ls hl => ?_)
  obtain ⟨z, hz⟩ : ∃ z, z = sp_Pa_setErrorOfDecade p1 p2 w1 := ⟨_, rfl⟩
  rw [← hz]
  unfold sp_Pa_setErrorOfDecade at hz
  refine lv_iload_n hx hb d_Pa_setErrorOfDecade_0 rfl (lv_at hl 1 rfl) ?_
  refine lv_if_lt (tgt := 20) hx hb d_Pa_setErrorOfDecade_1 (by decide) (fun c1 => ?_) (fun c1 => ?_)
  · have hz := hz.trans (if_pos c1)
    exact endV C hz hP hS d_Pa_setErrorOfDecade_20
  · have hz := hz.trans (if_neg c1)
    refine lv_iload_n hx hb d_Pa_setErrorOfDecade_4 rfl (lv_at hl 1 rfl) ?_
    refine lv_aload_n hx hb d_Pa_setErrorOfDecade_5 rfl (lv_at hl 0 rfl) ?_
    refine gf C hP 0 3 fkPa rfl (by decide) rfl qf_Pa_9 (gPa_3 _ _ _ _ _) d_Pa_setErrorOfDecade_6 ?_
    refine alen C hP 1 rfl (t0 := 0) rfl (v := 4) (by decide) d_Pa_setErrorOfDecade_9 ?_
    refine lv_icmp_ge (tgt := 20) hx hb d_Pa_setErrorOfDecade_10 (by decide) (fun c2 => ?_) (fun c2 => ?_)
    · have hz := hz.trans (if_pos c2)
      exact endV C hz hP hS d_Pa_setErrorOfDecade_20
    · have hz := hz.trans (if_neg c2)
      refine lv_aload_n hx hb d_Pa_setErrorOfDecade_13 rfl (lv_at hl 0 rfl) ?_
      refine gf C hP 0 3 fkPa rfl (by decide) rfl qf_Pa_9 (gPa_3 _ _ _ _ _) d_Pa_setErrorOfDecade_14 ?_
      refine lv_iload_n hx hb d_Pa_setErrorOfDecade_17 rfl (lv_at hl 1 rfl) ?_
      refine lv_iload_n hx hb d_Pa_setErrorOfDecade_18 rfl (lv_at hl 2 rfl) ?_
      refine stI C hP hD hS 1 rfl (vi2 (vlo c1) (vhi c2) (by decide)) rfl d_Pa_setErrorOfDecade_19 (fun w_3 ew_3 H locs hP hD hS => ?_)
      have hP : va_P g.1 vwCl (wPa g qpa qpae qpar qpau qpab w0 w_3 w2 w3 w4) H := hP
      have hD : va_D (inW (wPa g qpa qpae qpar qpau qpab w0 w1 w2 w3 w4)) (wPa g qpa qpae qpar qpau qpab w0 w_3 w2 w3 w4) := hD
      have hz := lett_z hz ew_3
      exact endV C hz hP hS d_Pa_setErrorOfDecade_20
abbrev rm_Pa_errorOfKind : Room := { frames := 0, cells := 0, slots := 0, locals := 0 }
def HL_Pa_errorOfKind_22 (p : Program) (l : Launch) (e : Env) (s : State) (m : MethodId) (args : Array Value) (below : List Frame) (meth : Method) (c : Code) (g : GX) (qpa : Nat) (qpae : Nat) (qpar : Nat) (qpau : Nat) (qpab : Nat) (w0 : IV) (w1 : IV) (w2 : IV) (w3 : IV) (w4 : IV) (sp : Int32) (ok : Prop) : Prop := ∀ (_ : Unit), ok → ∀ z : Int32, z = sp → ∀ (H : Heap) (locs : List Loc) (ls : Array Slot), va_P g.1 vwCl (wPa g qpa qpae qpar qpau qpab w0 w1 w2 w3 w4) H → va_D (inW (wPa g qpa qpae qpar qpau qpab w0 w1 w2 w3 w4)) (wPa g qpa qpae qpar qpau qpab w0 w1 w2 w3 w4) → va_S (inW (wPa g qpa qpae qpar qpau qpab w0 w1 w2 w3 w4)) s.heap H locs → lv_has ls 2 [] → W p l e rm_Pa_errorOfKind s m args below meth c H locs 0 0 (MQ below (CI0 g (wPa g qpa qpae qpar qpau qpab w0 w1 w2 w3 w4) z) args s 0 0 (inW (wPa g qpa qpae qpar qpau qpab w0 w1 w2 w3 w4))) (F0 m 22 ls [])
noncomputable def sp_Pa_errorOfKind_22    : Int32 := (0 : Int32)
def ok_Pa_errorOfKind_22     : Prop := True
set_option maxRecDepth 100000 in
set_option maxHeartbeats 4000000 in
theorem k_Pa_errorOfKind_22 {p : Program} {l : Launch} {e : Env} {s : State} {m : MethodId} {args : Array Value} {below : List Frame} {meth : Method} {c : Code} {g : GX} {qpa : Nat} {qpae : Nat} {qpar : Nat} {qpau : Nat} {qpab : Nat} {w0 : IV} {w1 : IV} {w2 : IV} {w3 : IV} {w4 : IV}  (C : Cx p s m args meth c (inW (wPa g qpa qpae qpar qpau qpab w0 w1 w2 w3 w4)) g "DecadeBridge$Parts" b_Pa_errorOfKind (some .int) 2)  : HL_Pa_errorOfKind_22 p l e s m args below meth c g qpa qpae qpar qpau qpab w0 w1 w2 w3 w4 (sp_Pa_errorOfKind_22  ) (ok_Pa_errorOfKind_22   ) := by
  intro _ hok z hz H locs ls hP hD hS hl
  obtain ⟨hx, hb, hr, hml, hown, hlk, hts, hK, hZo, hZ⟩ := id C
  unfold sp_Pa_errorOfKind_22 at hz
  refine lv_iconst (v := 0) hx hb d_Pa_errorOfKind_22 (by decide) ?_
  exact endI0 C hz hP hS d_Pa_errorOfKind_23
noncomputable def sp_Pa_errorOfKind (p1 : Int32) (w2 : IV) : Int32 := if p1 < 0 then (sp_Pa_errorOfKind_22) else (if (5 : Int32) ≤ p1 then (sp_Pa_errorOfKind_22) else (w2 p1.toNatClampNeg))
set_option maxRecDepth 100000 in
set_option maxHeartbeats 4000000 in
theorem c_Pa_errorOfKind (l : Launch) (g : GX) (qpa : Nat) (qpae : Nat) (qpar : Nat) (qpau : Nat) (qpab : Nat) (w0 : IV) (w1 : IV) (w2 : IV) (w3 : IV) (w4 : IV) (p1 : Int32) : Met l y_Pa_errorOfKind (wsY y_Pa_errorOfKind b_Pa_errorOfKind 2 (some .int)) rm_Pa_errorOfKind (CP g [.ref qpa, .int p1] (wPa g qpa qpae qpar qpau qpab w0 w1 w2 w3 w4)) (CI0 g (wPa g qpa qpae qpar qpau qpab w0 w1 w2 w3 w4) (sp_Pa_errorOfKind p1 w2)) 0 0 (inW (wPa g qpa qpae qpar qpau qpab w0 w1 w2 w3 w4)) := by
  refine Met.ofW (cc := b_Pa_errorOfKind) (maxL := 2) (ret := (some .int)) pn_Pa rfl ?_
  intro p e s m args below meth c s₁ B hml hv
  obtain ⟨rfl, C, hP, hD, hS⟩ := enter "DecadeBridge$Parts" rfl B hml hv
  obtain ⟨hx, hb, hr, hml, hown, hlk, hts, hK, hZo, hZ⟩ := id C
  refine entryW (lv := [(0, .ref qpa), (1, .int p1)]) rfl (Nat.le_of_ble_eq_true rfl) (fun ls hl => ?_)
  obtain ⟨z, hz⟩ : ∃ z, z = sp_Pa_errorOfKind p1 w2 := ⟨_, rfl⟩
  rw [← hz]
  unfold sp_Pa_errorOfKind at hz
  refine lv_iload_n hx hb d_Pa_errorOfKind_0 rfl (lv_at hl 1 rfl) ?_
  refine lv_if_lt (tgt := 22) hx hb d_Pa_errorOfKind_1 (by decide) (fun c1 => ?_) (fun c1 => ?_)
  · have hz := hz.trans (if_pos c1)
    exact k_Pa_errorOfKind_22 C () trivial _ hz _ _ ls hP hD hS (lv_sub hl [] rfl)
  · have hz := hz.trans (if_neg c1)
    refine lv_iload_n hx hb d_Pa_errorOfKind_4 rfl (lv_at hl 1 rfl) ?_
    refine lv_aload_n hx hb d_Pa_errorOfKind_5 rfl (lv_at hl 0 rfl) ?_
    refine gf C hP 0 4 fkPa rfl (by decide) rfl qf_Pa_15 (gPa_4 _ _ _ _ _) d_Pa_errorOfKind_6 ?_
    refine alen C hP 2 rfl (t0 := 0) rfl (v := 5) (by decide) d_Pa_errorOfKind_9 ?_
    refine lv_icmp_ge (tgt := 22) hx hb d_Pa_errorOfKind_10 (by decide) (fun c2 => ?_) (fun c2 => ?_)
    · have hz := hz.trans (if_pos c2)
      exact k_Pa_errorOfKind_22 C () trivial _ hz _ _ ls hP hD hS (lv_sub hl [] rfl)
    · have hz := hz.trans (if_neg c2)
      refine lv_aload_n hx hb d_Pa_errorOfKind_13 rfl (lv_at hl 0 rfl) ?_
      refine gf C hP 0 4 fkPa rfl (by decide) rfl qf_Pa_15 (gPa_4 _ _ _ _ _) d_Pa_errorOfKind_14 ?_
      refine lv_iload_n hx hb d_Pa_errorOfKind_17 rfl (lv_at hl 1 rfl) ?_
      refine ldI C hP 2 rfl (vi2 (vlo c1) (vhi c2) (by decide)) rfl d_Pa_errorOfKind_18 ?_
      refine lv_goto (tgt := 23) hx hb d_Pa_errorOfKind_19 (by decide) ?_
      exact endI0 C hz hP hS d_Pa_errorOfKind_23
abbrev rm_Pa_setErrorOfKind : Room := { frames := 0, cells := 0, slots := 0, locals := 0 }
noncomputable def sp_Pa_setErrorOfKind (p1 : Int32) (p2 : Int32) (w2 : IV) : IV := if p1 < 0 then (w2) else (if (5 : Int32) ≤ p1 then (w2) else (lett (upd w2 p1.toNatClampNeg p2) fun (w_3 : IV) => w_3))
set_option maxRecDepth 100000 in
set_option maxHeartbeats 4000000 in
theorem c_Pa_setErrorOfKind (l : Launch) (g : GX) (qpa : Nat) (qpae : Nat) (qpar : Nat) (qpau : Nat) (qpab : Nat) (w0 : IV) (w1 : IV) (w2 : IV) (w3 : IV) (w4 : IV) (p1 : Int32) (p2 : Int32) : Met l y_Pa_setErrorOfKind (wsY y_Pa_setErrorOfKind b_Pa_setErrorOfKind 3 none) rm_Pa_setErrorOfKind (CP g [.ref qpa, .int p1, .int p2] (wPa g qpa qpae qpar qpau qpab w0 w1 w2 w3 w4)) (CV g (wPa g qpa qpae qpar qpau qpab w0 w1 w2 w3 w4) (fun u : IV => wPa g qpa qpae qpar qpau qpab w0 w1 u w3 w4) (sp_Pa_setErrorOfKind p1 p2 w2)) 0 0 (inW (wPa g qpa qpae qpar qpau qpab w0 w1 w2 w3 w4)) := by
  refine Met.ofW (cc := b_Pa_setErrorOfKind) (maxL := 3) (ret := none) pn_Pa rfl ?_
  intro p e s m args below meth c s₁ B hml hv
  obtain ⟨rfl, C, hP, hD, hS⟩ := enter "DecadeBridge$Parts" rfl B hml hv
  obtain ⟨hx, hb, hr, hml, hown, hlk, hts, hK, hZo, hZ⟩ := id C
  refine entryW (lv := [(0, .ref qpa), (1, .int p1), (2, .int p2)]) rfl (Nat.le_of_ble_eq_true rfl) (fun ls hl => ?_)
  obtain ⟨z, hz⟩ : ∃ z, z = sp_Pa_setErrorOfKind p1 p2 w2 := ⟨_, rfl⟩
  rw [← hz]
  unfold sp_Pa_setErrorOfKind at hz
  refine lv_iload_n hx hb d_Pa_setErrorOfKind_0 rfl (lv_at hl 1 rfl) ?_
  refine lv_if_lt (tgt := 20) hx hb d_Pa_setErrorOfKind_1 (by decide) (fun c1 => ?_) (fun c1 => ?_)
  · have hz := hz.trans (if_pos c1)
    exact endV C hz hP hS d_Pa_setErrorOfKind_20
  · have hz := hz.trans (if_neg c1)
    refine lv_iload_n hx hb d_Pa_setErrorOfKind_4 rfl (lv_at hl 1 rfl) ?_
    refine lv_aload_n hx hb d_Pa_setErrorOfKind_5 rfl (lv_at hl 0 rfl) ?_
    refine gf C hP 0 4 fkPa rfl (by decide) rfl qf_Pa_15 (gPa_4 _ _ _ _ _) d_Pa_setErrorOfKind_6 ?_
    refine alen C hP 2 rfl (t0 := 0) rfl (v := 5) (by decide) d_Pa_setErrorOfKind_9 ?_
    refine lv_icmp_ge (tgt := 20) hx hb d_Pa_setErrorOfKind_10 (by decide) (fun c2 => ?_) (fun c2 => ?_)
    · have hz := hz.trans (if_pos c2)
      exact endV C hz hP hS d_Pa_setErrorOfKind_20
    · have hz := hz.trans (if_neg c2)
      refine lv_aload_n hx hb d_Pa_setErrorOfKind_13 rfl (lv_at hl 0 rfl) ?_
      refine gf C hP 0 4 fkPa rfl (by decide) rfl qf_Pa_15 (gPa_4 _ _ _ _ _) d_Pa_setErrorOfKind_14 ?_
      refine lv_iload_n hx hb d_Pa_setErrorOfKind_17 rfl (lv_at hl 1 rfl) ?_
      refine lv_iload_n hx hb d_Pa_setErrorOfKind_18 rfl (lv_at hl 2 rfl) ?_
      refine stI C hP hD hS 2 rfl (vi2 (vlo c1) (vhi c2) (by decide)) rfl d_Pa_setErrorOfKind_19 (fun w_3 ew_3 H locs hP hD hS => ?_)
      have hP : va_P g.1 vwCl (wPa g qpa qpae qpar qpau qpab w0 w1 w_3 w3 w4) H := hP
      have hD : va_D (inW (wPa g qpa qpae qpar qpau qpab w0 w1 w2 w3 w4)) (wPa g qpa qpae qpar qpau qpab w0 w1 w_3 w3 w4) := hD
      have hz := lett_z hz ew_3
      exact endV C hz hP hS d_Pa_setErrorOfKind_20
abbrev rm_Pa_valueOfKind : Room := { frames := 0, cells := 0, slots := 0, locals := 0 }
noncomputable def sp_Pa_valueOfKind (p1 : Int32) (w2 : IV) : Int32 := if p1 < 0 then ((0 : Int32)) else (if (5 : Int32) ≤ p1 then ((0 : Int32)) else (if p1 < (5 : Int32) then (lett ((nomF p1.toNatClampNeg).toInt64) fun (v4 : Int64) => (v4 + ((v4 * ((w2 p1.toNatClampNeg).toInt64)) / (1000000 : Int64))).toInt32) else ((0 : Int32))))
set_option maxRecDepth 100000 in
set_option maxHeartbeats 4000000 in
theorem c_Pa_valueOfKind (l : Launch) (g : GX) (qpa : Nat) (qpae : Nat) (qpar : Nat) (qpau : Nat) (qpab : Nat) (w0 : IV) (w1 : IV) (w2 : IV) (w3 : IV) (w4 : IV) (p1 : Int32) : Met l y_Pa_valueOfKind (wsY y_Pa_valueOfKind b_Pa_valueOfKind 4 (some .int)) rm_Pa_valueOfKind (CP g [.ref qpa, .int p1] (wPa g qpa qpae qpar qpau qpab w0 w1 w2 w3 w4)) (CI0 g (wPa g qpa qpae qpar qpau qpab w0 w1 w2 w3 w4) (sp_Pa_valueOfKind p1 w2)) 0 0 (inW (wPa g qpa qpae qpar qpau qpab w0 w1 w2 w3 w4)) := by
  refine Met.ofW (cc := b_Pa_valueOfKind) (maxL := 4) (ret := (some .int)) pn_Pa rfl ?_
  intro p e s m args below meth c s₁ B hml hv
  obtain ⟨rfl, C, hP, hD, hS⟩ := enter "DecadeBridge$Parts" rfl B hml hv
  obtain ⟨hx, hb, hr, hml, hown, hlk, hts, hK, hZo, hZ⟩ := id C
  refine entryW (lv := [(0, .ref qpa), (1, .int p1)]) rfl (Nat.le_of_ble_eq_true rfl) (fun ls hl => ?_)
  obtain ⟨z, hz⟩ : ∃ z, z = sp_Pa_valueOfKind p1 w2 := ⟨_, rfl⟩
  rw [← hz]
  unfold sp_Pa_valueOfKind at hz
  refine lv_iload_n hx hb d_Pa_valueOfKind_0 rfl (lv_at hl 1 rfl) ?_
  refine lv_if_lt (tgt := 21) hx hb d_Pa_valueOfKind_1 (by decide) (fun c1 => ?_) (fun c1 => ?_)
  · have hz := hz.trans (if_pos c1)
    refine lv_iconst (v := 0) hx hb d_Pa_valueOfKind_21 (by decide) ?_
    exact endI0 C hz hP hS d_Pa_valueOfKind_22
  · have hz := hz.trans (if_neg c1)
    refine lv_iload_n hx hb d_Pa_valueOfKind_4 rfl (lv_at hl 1 rfl) ?_
    refine va_gets hx hb (zNom hZo hZ).1 hS hown (hts _ qf_Pa_88) (fun _ h9 => h9) d_Pa_valueOfKind_5 ?_
    refine va_tlen hx hb (zNom hZo hZ).2 hS (v := 5) (by decide) d_Pa_valueOfKind_8 ?_
    refine lv_icmp_ge (tgt := 21) hx hb d_Pa_valueOfKind_9 (by decide) (fun c2 => ?_) (fun c2 => ?_)
    · have hz := hz.trans (if_pos c2)
      refine lv_iconst (v := 0) hx hb d_Pa_valueOfKind_21 (by decide) ?_
      exact endI0 C hz hP hS d_Pa_valueOfKind_22
    · have hz := hz.trans (if_neg c2)
      refine lv_iload_n hx hb d_Pa_valueOfKind_12 rfl (lv_at hl 1 rfl) ?_
      refine lv_aload_n hx hb d_Pa_valueOfKind_13 rfl (lv_at hl 0 rfl) ?_
      refine gf C hP 0 4 fkPa rfl (by decide) rfl qf_Pa_15 (gPa_4 _ _ _ _ _) d_Pa_valueOfKind_14 ?_
      refine alen C hP 2 rfl (t0 := 0) rfl (v := 5) (by decide) d_Pa_valueOfKind_17 ?_
      refine lv_icmp_lt (tgt := 23) hx hb d_Pa_valueOfKind_18 (by decide) (fun c3 => ?_) (fun c3 => ?_)
      · have hz := hz.trans (if_pos c3)
        refine va_gets hx hb (zNom hZo hZ).1 hS hown (hts _ qf_Pa_88) (fun _ h9 => h9) d_Pa_valueOfKind_23 ?_
        refine lv_iload_n hx hb d_Pa_valueOfKind_26 rfl (lv_at hl 1 rfl) ?_
        refine va_ti hx hb (zNom hZo hZ).2 hS (vi2 (vlo c1) c3 (by decide)) (v := .int (nomF p1.toNatClampNeg)) rfl d_Pa_valueOfKind_27 ?_
        refine lv_i2l hx hb d_Pa_valueOfKind_28 rfl ?_
        refine lv_topl (fun v4 ev4 => ?_)
        have hz := lett_z hz ev4
        refine lv_lstore_n (lv' := [(2, .long v4), (0, .ref qpa), (1, .int p1)]) hx hb d_Pa_valueOfKind_29 rfl hl (by decide) rfl (fun ls hl => ?_)
        refine lv_lload_n hx hb d_Pa_valueOfKind_30 rfl (lv_at hl 0 rfl) ?_
        refine lv_lload_n hx hb d_Pa_valueOfKind_31 rfl (lv_at hl 0 rfl) ?_
        refine lv_aload_n hx hb d_Pa_valueOfKind_32 rfl (lv_at hl 1 rfl) ?_
        refine gf C hP 0 4 fkPa rfl (by decide) rfl qf_Pa_15 (gPa_4 _ _ _ _ _) d_Pa_valueOfKind_33 ?_
        refine lv_iload_n hx hb d_Pa_valueOfKind_36 rfl (lv_at hl 2 rfl) ?_
        refine ldI C hP 2 rfl (vi2 (vlo c1) c3 (by decide)) rfl d_Pa_valueOfKind_37 ?_
        refine lv_i2l hx hb d_Pa_valueOfKind_38 rfl ?_
        refine lv_lmul hx hb d_Pa_valueOfKind_39 ?_
        refine lv_ldc2 hx hb hown (hts _ qk_Pa_97) d_Pa_valueOfKind_40 ?_
        refine lv_ldiv hx hb d_Pa_valueOfKind_43 (by decide) ?_
        refine lv_ladd hx hb d_Pa_valueOfKind_44 ?_
        refine lv_l2i hx hb d_Pa_valueOfKind_45 rfl ?_
        exact endI0 C hz hP hS d_Pa_valueOfKind_46
      · have hz := hz.trans (if_neg c3)
        refine lv_iconst (v := 0) hx hb d_Pa_valueOfKind_21 (by decide) ?_
        exact endI0 C hz hP hS d_Pa_valueOfKind_22
abbrev rm_Pa_coldAt : Room := { frames := 0, cells := 0, slots := 0, locals := 0 }
def HL_Pa_coldAt_20 (p : Program) (l : Launch) (e : Env) (s : State) (m : MethodId) (args : Array Value) (below : List Frame) (meth : Method) (c : Code) (g : GX) (qpa : Nat) (qpae : Nat) (qpar : Nat) (qpau : Nat) (qpab : Nat) (w0 : IV) (w1 : IV) (w2 : IV) (w3 : IV) (w4 : IV) (sp : Int64 → Int64 → Int32 → Int32 → Int32) (ok : Int64 → Int64 → Int32 → Int32 → Prop) : Prop := ∀ (x2p20 : Int64) (x4p20 : Int64) (x6p20 : Int32) (x7p20 : Int32), ok x2p20 x4p20 x6p20 x7p20 → ∀ z : Int32, z = sp x2p20 x4p20 x6p20 x7p20 → ∀ (H : Heap) (locs : List Loc) (ls : Array Slot), va_P g.1 vwCl (wPa g qpa qpae qpar qpau qpab w0 w1 w2 w3 w4) H → va_D (inW (wPa g qpa qpae qpar qpau qpab w0 w1 w2 w3 w4)) (wPa g qpa qpae qpar qpau qpab w0 w1 w2 w3 w4) → va_S (inW (wPa g qpa qpae qpar qpau qpab w0 w1 w2 w3 w4)) s.heap H locs → lv_has ls 9 [(0, .ref qpa), (2, .long x2p20), (4, .long x4p20), (6, .int x6p20), (7, .int x7p20)] → W p l e rm_Pa_coldAt s m args below meth c H locs 0 0 (MQ below (CI0 g (wPa g qpa qpae qpar qpau qpab w0 w1 w2 w3 w4) z) args s 0 0 (inW (wPa g qpa qpae qpar qpau qpab w0 w1 w2 w3 w4))) (F0 m 20 ls [])
def HL_Pa_coldAt_46 (p : Program) (l : Launch) (e : Env) (s : State) (m : MethodId) (args : Array Value) (below : List Frame) (meth : Method) (c : Code) (g : GX) (qpa : Nat) (qpae : Nat) (qpar : Nat) (qpau : Nat) (qpab : Nat) (w0 : IV) (w1 : IV) (w2 : IV) (w3 : IV) (w4 : IV) (x2p20 : Int64) (x4p20 : Int64) (x6p20 : Int32) (x7p20 : Int32) (sp : Int32 → Int32) (ok : Int32 → Prop) : Prop := ∀ (t0p46 : Int32), ok t0p46 → ∀ z : Int32, z = sp t0p46 → ∀ (H : Heap) (locs : List Loc) (ls : Array Slot), va_P g.1 vwCl (wPa g qpa qpae qpar qpau qpab w0 w1 w2 w3 w4) H → va_D (inW (wPa g qpa qpae qpar qpau qpab w0 w1 w2 w3 w4)) (wPa g qpa qpae qpar qpau qpab w0 w1 w2 w3 w4) → va_S (inW (wPa g qpa qpae qpar qpau qpab w0 w1 w2 w3 w4)) s.heap H locs → lv_has ls 9 [(0, .ref qpa), (2, .long x2p20), (4, .long x4p20), (6, .int x6p20), (7, .int x7p20)] → W p l e rm_Pa_coldAt s m args below meth c H locs 0 0 (MQ below (CI0 g (wPa g qpa qpae qpar qpau qpab w0 w1 w2 w3 w4) z) args s 0 0 (inW (wPa g qpa qpae qpar qpau qpab w0 w1 w2 w3 w4))) (F0 m 46 ls [.int t0p46])
def HL_Pa_coldAt_88 (p : Program) (l : Launch) (e : Env) (s : State) (m : MethodId) (args : Array Value) (below : List Frame) (meth : Method) (c : Code) (g : GX) (qpa : Nat) (qpae : Nat) (qpar : Nat) (qpau : Nat) (qpab : Nat) (w0 : IV) (w1 : IV) (w2 : IV) (w3 : IV) (w4 : IV) (x2p20 : Int64) (sp : Int32) (ok : Prop) : Prop := ∀ (_ : Unit), ok → ∀ z : Int32, z = sp → ∀ (H : Heap) (locs : List Loc) (ls : Array Slot), va_P g.1 vwCl (wPa g qpa qpae qpar qpau qpab w0 w1 w2 w3 w4) H → va_D (inW (wPa g qpa qpae qpar qpau qpab w0 w1 w2 w3 w4)) (wPa g qpa qpae qpar qpau qpab w0 w1 w2 w3 w4) → va_S (inW (wPa g qpa qpae qpar qpau qpab w0 w1 w2 w3 w4)) s.heap H locs → lv_has ls 9 [(0, .ref qpa), (2, .long x2p20)] → W p l e rm_Pa_coldAt s m args below meth c H locs 0 0 (MQ below (CI0 g (wPa g qpa qpae qpar qpau qpab w0 w1 w2 w3 w4) z) args s 0 0 (inW (wPa g qpa qpae qpar qpau qpab w0 w1 w2 w3 w4))) (F0 m 88 ls [])
noncomputable def sp_Pa_coldAt_88 (x2p20 : Int64) (w0 : IV)   : Int32 := ((x2p20 / (1000000 : Int64)).toInt32) + (w0 2)
def ok_Pa_coldAt_88 (x2p20 : Int64) (w0 : IV)    : Prop := True
set_option maxRecDepth 100000 in
set_option maxHeartbeats 4000000 in
theorem k_Pa_coldAt_88 {p : Program} {l : Launch} {e : Env} {s : State} {m : MethodId} {args : Array Value} {below : List Frame} {meth : Method} {c : Code} {g : GX} {qpa : Nat} {qpae : Nat} {qpar : Nat} {qpau : Nat} {qpab : Nat} {w0 : IV} {w1 : IV} {w2 : IV} {w3 : IV} {w4 : IV} {x2p20 : Int64}  (C : Cx p s m args meth c (inW (wPa g qpa qpae qpar qpau qpab w0 w1 w2 w3 w4)) g "DecadeBridge$Parts" b_Pa_coldAt (some .int) 9)  : HL_Pa_coldAt_88 p l e s m args below meth c g qpa qpae qpar qpau qpab w0 w1 w2 w3 w4 x2p20 (sp_Pa_coldAt_88 x2p20 w0 ) (ok_Pa_coldAt_88 x2p20 w0  ) := by
  intro _ hok z hz H locs ls hP hD hS hl
  obtain ⟨hx, hb, hr, hml, hown, hlk, hts, hK, hZo, hZ⟩ := id C
  unfold sp_Pa_coldAt_88 at hz
  refine lv_lload_n hx hb d_Pa_coldAt_88 rfl (lv_at hl 1 rfl) ?_
  refine lv_ldc2 hx hb hown (hts _ qk_Pa_97) d_Pa_coldAt_89 ?_
  refine lv_ldiv hx hb d_Pa_coldAt_92 (by decide) ?_
  refine lv_l2i hx hb d_Pa_coldAt_93 rfl ?_
  refine lv_aload_n hx hb d_Pa_coldAt_94 rfl (lv_at hl 0 rfl) ?_
  refine gf C hP 0 2 fkPa rfl (by decide) rfl qf_Pa_38 (gPa_2 _ _ _ _ _) d_Pa_coldAt_95 ?_
  refine lv_iadd hx hb d_Pa_coldAt_98 ?_
  exact endI0 C hz hP hS d_Pa_coldAt_99
noncomputable def sp_Pa_coldAt_46 (x2p20 : Int64) (x6p20 : Int32) (x4p20 : Int64) (x7p20 : Int32) (r20 : Int64 → Int64 → Int32 → Int32 → Int32) (t0p46 : Int32) : Int32 := lett (x2p20 + ((((x6p20 - x6p20 / (10 : Int32) * (10 : Int32)).toInt64) * x4p20) * (((1000000 : Int32) + t0p46).toInt64))) fun (v5 : Int64) => lett (x6p20 / (10 : Int32)) fun (v6 : Int32) => lett (x4p20 * (10 : Int64)) fun (v7 : Int64) => lett (x7p20 + (-1 : Int32)) fun (v8 : Int32) => r20 v5 v7 v6 v8
def ok_Pa_coldAt_46 (x2p20 : Int64) (x6p20 : Int32) (x4p20 : Int64) (x7p20 : Int32) (r20 : Int64 → Int64 → Int32 → Int32 → Int32) (q20 : Int64 → Int64 → Int32 → Int32 → Prop) (t0p46 : Int32) : Prop := lett (x2p20 + ((((x6p20 - x6p20 / (10 : Int32) * (10 : Int32)).toInt64) * x4p20) * (((1000000 : Int32) + t0p46).toInt64))) fun (v5 : Int64) => lett (x6p20 / (10 : Int32)) fun (v6 : Int32) => lett (x4p20 * (10 : Int64)) fun (v7 : Int64) => lett (x7p20 + (-1 : Int32)) fun (v8 : Int32) => q20 v5 v7 v6 v8
set_option maxRecDepth 100000 in
set_option maxHeartbeats 4000000 in
theorem k_Pa_coldAt_46 {p : Program} {l : Launch} {e : Env} {s : State} {m : MethodId} {args : Array Value} {below : List Frame} {meth : Method} {c : Code} {g : GX} {qpa : Nat} {qpae : Nat} {qpar : Nat} {qpau : Nat} {qpab : Nat} {w0 : IV} {w1 : IV} {w2 : IV} {w3 : IV} {w4 : IV} {x2p20 : Int64} {x4p20 : Int64} {x6p20 : Int32} {x7p20 : Int32} {r20 : Int64 → Int64 → Int32 → Int32 → Int32} {q20 : Int64 → Int64 → Int32 → Int32 → Prop} (C : Cx p s m args meth c (inW (wPa g qpa qpae qpar qpau qpab w0 w1 w2 w3 w4)) g "DecadeBridge$Parts" b_Pa_coldAt (some .int) 9) (ih20 : HL_Pa_coldAt_20 p l e s m args below meth c g qpa qpae qpar qpau qpab w0 w1 w2 w3 w4 r20 q20) : HL_Pa_coldAt_46 p l e s m args below meth c g qpa qpae qpar qpau qpab w0 w1 w2 w3 w4 x2p20 x4p20 x6p20 x7p20 (sp_Pa_coldAt_46 x2p20 x6p20 x4p20 x7p20 r20) (ok_Pa_coldAt_46 x2p20 x6p20 x4p20 x7p20 r20 q20) := by
  intro t0p46 hok z hz H locs ls hP hD hS hl
  obtain ⟨hx, hb, hr, hml, hown, hlk, hts, hK, hZo, hZ⟩ := id C
  unfold sp_Pa_coldAt_46 at hz
  unfold ok_Pa_coldAt_46 at hok
  refine lv_istore (lv' := [(8, .int t0p46), (0, .ref qpa), (2, .long x2p20), (4, .long x4p20), (6, .int x6p20), (7, .int x7p20)]) hx hb d_Pa_coldAt_46 hl (by decide) rfl (fun ls hl => ?_)
  refine lv_lload_n hx hb d_Pa_coldAt_48 rfl (lv_at hl 2 rfl) ?_
  refine lv_iload hx hb d_Pa_coldAt_49 (lv_at hl 4 rfl) ?_
  refine lv_bipush (v := 10) hx hb d_Pa_coldAt_51 (by decide) ?_
  refine lv_irem hx hb d_Pa_coldAt_53 (by decide) ?_
  refine lv_i2l hx hb d_Pa_coldAt_54 rfl ?_
  refine lv_lload hx hb d_Pa_coldAt_55 (lv_at hl 3 rfl) ?_
  refine lv_lmul hx hb d_Pa_coldAt_57 ?_
  refine lv_ldc hx hb hown (hts _ qk_Pa_57) d_Pa_coldAt_58 ?_
  refine lv_iload hx hb d_Pa_coldAt_60 (lv_at hl 0 rfl) ?_
  refine lv_iadd hx hb d_Pa_coldAt_62 ?_
  refine lv_i2l hx hb d_Pa_coldAt_63 rfl ?_
  refine lv_lmul hx hb d_Pa_coldAt_64 ?_
  refine lv_ladd hx hb d_Pa_coldAt_65 ?_
  refine lv_topl (fun v5 ev5 => ?_)
  have hz := lett_z hz ev5
  have hok := lett_o hok ev5
  refine lv_lstore_n (lv' := [(2, .long v5), (8, .int t0p46), (0, .ref qpa), (4, .long x4p20), (6, .int x6p20), (7, .int x7p20)]) hx hb d_Pa_coldAt_66 rfl hl (by decide) rfl (fun ls hl => ?_)
  refine lv_iload hx hb d_Pa_coldAt_67 (lv_at hl 4 rfl) ?_
  refine lv_bipush (v := 10) hx hb d_Pa_coldAt_69 (by decide) ?_
  refine lv_idiv hx hb d_Pa_coldAt_71 (by decide) ?_
  refine lv_topi (fun v6 ev6 => ?_)
  have hz := lett_z hz ev6
  have hok := lett_o hok ev6
  refine lv_istore (lv' := [(6, .int v6), (2, .long v5), (8, .int t0p46), (0, .ref qpa), (4, .long x4p20), (7, .int x7p20)]) hx hb d_Pa_coldAt_72 hl (by decide) rfl (fun ls hl => ?_)
  refine lv_lload hx hb d_Pa_coldAt_74 (lv_at hl 4 rfl) ?_
  refine lv_ldc2 hx hb hown (hts _ qk_Pa_99) d_Pa_coldAt_76 ?_
  refine lv_lmul hx hb d_Pa_coldAt_79 ?_
  refine lv_topl (fun v7 ev7 => ?_)
  have hz := lett_z hz ev7
  have hok := lett_o hok ev7
  refine lv_lstore (lv' := [(4, .long v7), (6, .int v6), (2, .long v5), (8, .int t0p46), (0, .ref qpa), (7, .int x7p20)]) hx hb d_Pa_coldAt_80 hl (by decide) rfl (fun ls hl => ?_)
  obtain ⟨v8, ev8⟩ : ∃ y : Int32, y = x7p20 + (-1 : Int32) := ⟨_, rfl⟩
  have hz := lett_z hz ev8
  have hok := lett_o hok ev8
  refine lv_iinc (v := v8) (lv' := [(7, .int v8), (4, .long v7), (6, .int v6), (2, .long v5), (8, .int t0p46), (0, .ref qpa)]) hx hb d_Pa_coldAt_82 hl (k := 5) rfl (by rw [ev8]; rfl) (by decide) rfl (fun ls hl => ?_)
  refine lv_goto (tgt := 20) hx hb d_Pa_coldAt_85 (by decide) ?_
  exact ih20 v5 v7 v6 v8 hok _ hz _ _ ls hP hD hS (lv_sub hl [5, 3, 1, 2, 0] rfl)
noncomputable def bd_Pa_coldAt_20 (w0 : IV) (w1 : IV) (r20 : Int64 → Int64 → Int32 → Int32 → Int32) (x2p20 : Int64) (x4p20 : Int64) (x6p20 : Int32) (x7p20 : Int32) : Int32 := if x7p20 < 0 then (sp_Pa_coldAt_88 x2p20 w0) else (if (4 : Int32) ≤ x7p20 then (sp_Pa_coldAt_46 x2p20 x6p20 x4p20 x7p20 r20 (0 : Int32)) else (sp_Pa_coldAt_46 x2p20 x6p20 x4p20 x7p20 r20 (w1 x7p20.toNatClampNeg)))
def okb_Pa_coldAt_20 (w0 : IV) (w1 : IV) (r20 : Int64 → Int64 → Int32 → Int32 → Int32) (q20 : Int64 → Int64 → Int32 → Int32 → Prop) (x2p20 : Int64) (x4p20 : Int64) (x6p20 : Int32) (x7p20 : Int32) : Prop := ((x7p20 < 0 → True) ∧ (¬ (x7p20 < 0) → (((4 : Int32) ≤ x7p20 → ok_Pa_coldAt_46 x2p20 x6p20 x4p20 x7p20 r20 q20 (0 : Int32)) ∧ (¬ ((4 : Int32) ≤ x7p20) → ok_Pa_coldAt_46 x2p20 x6p20 x4p20 x7p20 r20 q20 (w1 x7p20.toNatClampNeg)))))
noncomputable def sp_Pa_coldAt_20 (w0 : IV) (w1 : IV)  : Nat → Int64 → Int64 → Int32 → Int32 → Int32
  | 0 => fun _ _ _ _ => default
  | f + 1 => bd_Pa_coldAt_20 w0 w1  (sp_Pa_coldAt_20 w0 w1  f)
def ok_Pa_coldAt_20 (w0 : IV) (w1 : IV)   : Nat → Int64 → Int64 → Int32 → Int32 → Prop
  | 0 => fun _ _ _ _ => False
  | f + 1 => okb_Pa_coldAt_20 w0 w1  (sp_Pa_coldAt_20 w0 w1  f)  (ok_Pa_coldAt_20 w0 w1   f)
set_option maxRecDepth 100000 in
set_option maxHeartbeats 4000000 in
theorem kb_Pa_coldAt_20 {p : Program} {l : Launch} {e : Env} {s : State} {m : MethodId} {args : Array Value} {below : List Frame} {meth : Method} {c : Code} {g : GX} {qpa : Nat} {qpae : Nat} {qpar : Nat} {qpau : Nat} {qpab : Nat} {w0 : IV} {w1 : IV} {w2 : IV} {w3 : IV} {w4 : IV}  (C : Cx p s m args meth c (inW (wPa g qpa qpae qpar qpau qpab w0 w1 w2 w3 w4)) g "DecadeBridge$Parts" b_Pa_coldAt (some .int) 9) {r20 : Int64 → Int64 → Int32 → Int32 → Int32} {q20 : Int64 → Int64 → Int32 → Int32 → Prop}  (ih20 : HL_Pa_coldAt_20 p l e s m args below meth c g qpa qpae qpar qpau qpab w0 w1 w2 w3 w4 r20 q20) : HL_Pa_coldAt_20 p l e s m args below meth c g qpa qpae qpar qpau qpab w0 w1 w2 w3 w4 (bd_Pa_coldAt_20 w0 w1  r20) (okb_Pa_coldAt_20 w0 w1  r20  q20) := by
  intro x2p20 x4p20 x6p20 x7p20 hok z hz H locs ls hP hD hS hl
  obtain ⟨hx, hb, hr, hml, hown, hlk, hts, hK, hZo, hZ⟩ := id C
  unfold bd_Pa_coldAt_20 at hz
  unfold okb_Pa_coldAt_20 at hok
  refine lv_iload hx hb d_Pa_coldAt_20 (lv_at hl 4 rfl) ?_
  refine lv_if_lt (tgt := 88) hx hb d_Pa_coldAt_22 (by decide) (fun c3 => ?_) (fun c3 => ?_)
  · have hz := hz.trans (if_pos c3)
    exact k_Pa_coldAt_88 C () trivial _ hz _ _ ls hP hD hS (lv_sub hl [0, 1] rfl)
  · have hz := hz.trans (if_neg c3)
    have hok := hok.2 c3
    refine lv_iload hx hb d_Pa_coldAt_25 (lv_at hl 4 rfl) ?_
    refine lv_aload_n hx hb d_Pa_coldAt_27 rfl (lv_at hl 0 rfl) ?_
    refine gf C hP 0 3 fkPa rfl (by decide) rfl qf_Pa_9 (gPa_3 _ _ _ _ _) d_Pa_coldAt_28 ?_
    refine alen C hP 1 rfl (t0 := 0) rfl (v := 4) (by decide) d_Pa_coldAt_31 ?_
    refine lv_icmp_ge (tgt := 45) hx hb d_Pa_coldAt_32 (by decide) (fun c4 => ?_) (fun c4 => ?_)
    · have hz := hz.trans (if_pos c4)
      have hok := hok.1 c4
      refine lv_iconst (v := 0) hx hb d_Pa_coldAt_45 (by decide) ?_
      exact k_Pa_coldAt_46 C ih20 (0 : Int32) hok _ hz _ _ ls hP hD hS hl
    · have hz := hz.trans (if_neg c4)
      have hok := hok.2 c4
      refine lv_aload_n hx hb d_Pa_coldAt_35 rfl (lv_at hl 0 rfl) ?_
      refine gf C hP 0 3 fkPa rfl (by decide) rfl qf_Pa_9 (gPa_3 _ _ _ _ _) d_Pa_coldAt_36 ?_
      refine lv_iload hx hb d_Pa_coldAt_39 (lv_at hl 4 rfl) ?_
      refine ldI C hP 1 rfl (vi2 (vlo c3) (vhi c4) (by decide)) rfl d_Pa_coldAt_41 ?_
      refine lv_goto (tgt := 46) hx hb d_Pa_coldAt_42 (by decide) ?_
      exact k_Pa_coldAt_46 C ih20 (w1 x7p20.toNatClampNeg) hok _ hz _ _ ls hP hD hS hl
theorem k_Pa_coldAt_20 {p : Program} {l : Launch} {e : Env} {s : State} {m : MethodId} {args : Array Value} {below : List Frame} {meth : Method} {c : Code} {g : GX} {qpa : Nat} {qpae : Nat} {qpar : Nat} {qpau : Nat} {qpab : Nat} {w0 : IV} {w1 : IV} {w2 : IV} {w3 : IV} {w4 : IV}  (C : Cx p s m args meth c (inW (wPa g qpa qpae qpar qpau qpab w0 w1 w2 w3 w4)) g "DecadeBridge$Parts" b_Pa_coldAt (some .int) 9) (f : Nat)  : HL_Pa_coldAt_20 p l e s m args below meth c g qpa qpae qpar qpau qpab w0 w1 w2 w3 w4 (sp_Pa_coldAt_20 w0 w1  f) (ok_Pa_coldAt_20 w0 w1   f) := by
  induction f with
  | zero => intro x2p20 x4p20 x6p20 x7p20 hok; exact False.elim hok
  | succ f ih => exact kb_Pa_coldAt_20 C  ih
noncomputable def sp_Pa_coldAt (p1 : Int32) (w0 : IV) (w1 : IV) : Int32 := lett ((w0 1).toInt64) fun (v1 : Int64) => lett ((w0 0) - (1 : Int32)) fun (v2 : Int32) => sp_Pa_coldAt_20 w0 w1 big (0 : Int64) v1 p1 v2
def ok_Pa_coldAt (p1 : Int32) (w0 : IV) (w1 : IV) : Prop := lett ((w0 1).toInt64) fun (v1 : Int64) => lett ((w0 0) - (1 : Int32)) fun (v2 : Int32) => ok_Pa_coldAt_20 w0 w1 big (0 : Int64) v1 p1 v2
set_option maxRecDepth 100000 in
set_option maxHeartbeats 4000000 in
theorem c_Pa_coldAt (l : Launch) (g : GX) (qpa : Nat) (qpae : Nat) (qpar : Nat) (qpau : Nat) (qpab : Nat) (w0 : IV) (w1 : IV) (w2 : IV) (w3 : IV) (w4 : IV) (p1 : Int32) (hok : ok_Pa_coldAt p1 w0 w1) : Met l y_Pa_coldAt (wsY y_Pa_coldAt b_Pa_coldAt 9 (some .int)) rm_Pa_coldAt (CP g [.ref qpa, .int p1] (wPa g qpa qpae qpar qpau qpab w0 w1 w2 w3 w4)) (CI0 g (wPa g qpa qpae qpar qpau qpab w0 w1 w2 w3 w4) (sp_Pa_coldAt p1 w0 w1)) 0 0 (inW (wPa g qpa qpae qpar qpau qpab w0 w1 w2 w3 w4)) := by
  refine Met.ofW (cc := b_Pa_coldAt) (maxL := 9) (ret := (some .int)) pn_Pa rfl ?_
  intro p e s m args below meth c s₁ B hml hv
  obtain ⟨rfl, C, hP, hD, hS⟩ := enter "DecadeBridge$Parts" rfl B hml hv
  obtain ⟨hx, hb, hr, hml, hown, hlk, hts, hK, hZo, hZ⟩ := id C
  refine entryW (lv := [(0, .ref qpa), (1, .int p1)]) rfl (Nat.le_of_ble_eq_true rfl) (fun ls hl => ?_)
  obtain ⟨z, hz⟩ : ∃ z, z = sp_Pa_coldAt p1 w0 w1 := ⟨_, rfl⟩
  rw [← hz]
  unfold sp_Pa_coldAt at hz
  unfold ok_Pa_coldAt at hok
  refine lv_lconst (v := 0) hx hb d_Pa_coldAt_0 (by decide) ?_
  refine lv_lstore_n (lv' := [(2, .long (0 : Int64)), (0, .ref qpa), (1, .int p1)]) hx hb d_Pa_coldAt_1 rfl hl (by decide) rfl (fun ls hl => ?_)
  refine lv_aload_n hx hb d_Pa_coldAt_2 rfl (lv_at hl 1 rfl) ?_
  refine gf C hP 0 1 fkPa rfl (by decide) rfl qf_Pa_35 (gPa_1 _ _ _ _ _) d_Pa_coldAt_3 ?_
  refine lv_i2l hx hb d_Pa_coldAt_6 rfl ?_
  refine lv_topl (fun v1 ev1 => ?_)
  have hz := lett_z hz ev1
  have hok := lett_o hok ev1
  refine lv_lstore (lv' := [(4, .long v1), (2, .long (0 : Int64)), (0, .ref qpa), (1, .int p1)]) hx hb d_Pa_coldAt_7 hl (by decide) rfl (fun ls hl => ?_)
  refine lv_iload_n hx hb d_Pa_coldAt_9 rfl (lv_at hl 3 rfl) ?_
  refine lv_istore (lv' := [(6, .int p1), (4, .long v1), (2, .long (0 : Int64)), (0, .ref qpa), (1, .int p1)]) hx hb d_Pa_coldAt_10 hl (by decide) rfl (fun ls hl => ?_)
  refine lv_aload_n hx hb d_Pa_coldAt_12 rfl (lv_at hl 3 rfl) ?_
  refine gf C hP 0 0 fkPa rfl (by decide) rfl qf_Pa_31 (gPa_0 _ _ _ _ _) d_Pa_coldAt_13 ?_
  refine lv_iconst (v := 1) hx hb d_Pa_coldAt_16 (by decide) ?_
  refine lv_isub hx hb d_Pa_coldAt_17 ?_
  refine lv_topi (fun v2 ev2 => ?_)
  have hz := lett_z hz ev2
  have hok := lett_o hok ev2
  refine lv_istore (lv' := [(7, .int v2), (6, .int p1), (4, .long v1), (2, .long (0 : Int64)), (0, .ref qpa), (1, .int p1)]) hx hb d_Pa_coldAt_18 hl (by decide) rfl (fun ls hl => ?_)
  exact k_Pa_coldAt_20 C big (0 : Int64) v1 p1 v2 hok _ hz _ _ ls hP hD hS (lv_sub hl [4, 3, 2, 1, 0] rfl)
abbrev rm_Pr_inRow30 : Room := { frames := 0, cells := 0, slots := 0, locals := 0 }
def HL_Pr_inRow30_16 (p : Program) (l : Launch) (e : Env) (s : State) (m : MethodId) (args : Array Value) (below : List Frame) (meth : Method) (c : Code) (g : GX) (qar : Nat) (ff : IV) (sp : Int32) (ok : Prop) : Prop := ∀ (_ : Unit), ok → ∀ z : Int32, z = sp → ∀ (H : Heap) (locs : List Loc) (ls : Array Slot), va_P g.1 vwCl (wA30 g qar ff) H → va_D (inW (wA30 g qar ff)) (wA30 g qar ff) → va_S (inW (wA30 g qar ff)) s.heap H locs → lv_has ls 2 [] → W p l e rm_Pr_inRow30 s m args below meth c H locs 0 0 (MQ below (CI0 g (wA30 g qar ff) z) args s 0 0 (inW (wA30 g qar ff))) (F0 m 16 ls [])
noncomputable def sp_Pr_inRow30_16    : Int32 := (-1 : Int32)
def ok_Pr_inRow30_16     : Prop := True
set_option maxRecDepth 100000 in
set_option maxHeartbeats 4000000 in
theorem k_Pr_inRow30_16 {p : Program} {l : Launch} {e : Env} {s : State} {m : MethodId} {args : Array Value} {below : List Frame} {meth : Method} {c : Code} {g : GX} {qar : Nat} {ff : IV}  (C : Cx p s m args meth c (inW (wA30 g qar ff)) g "DecadeBridge$Protocol" b_Pr_inRow (some .int) 2)  : HL_Pr_inRow30_16 p l e s m args below meth c g qar ff (sp_Pr_inRow30_16  ) (ok_Pr_inRow30_16   ) := by
  intro _ hok z hz H locs ls hP hD hS hl
  obtain ⟨hx, hb, hr, hml, hown, hlk, hts, hK, hZo, hZ⟩ := id C
  unfold sp_Pr_inRow30_16 at hz
  refine lv_iconst (v := -1) hx hb d_Pr_inRow_16 (by decide) ?_
  exact endI0 C hz hP hS d_Pr_inRow_17
noncomputable def sp_Pr_inRow30 (p2 : Int32) (ff : IV) : Int32 := if p2 < 0 then (sp_Pr_inRow30_16) else (if (30 : Int32) ≤ p2 then (sp_Pr_inRow30_16) else (ff p2.toNatClampNeg))
set_option maxRecDepth 100000 in
set_option maxHeartbeats 4000000 in
theorem c_Pr_inRow30 (l : Launch) (g : GX) (qar : Nat) (ff : IV) (p2 : Int32) : Met l y_Pr_inRow (wsY y_Pr_inRow b_Pr_inRow 2 (some .int)) rm_Pr_inRow30 (CP g [.ref qar, .int p2] (wA30 g qar ff)) (CI0 g (wA30 g qar ff) (sp_Pr_inRow30 p2 ff)) 0 0 (inW (wA30 g qar ff)) := by
  refine Met.ofW (cc := b_Pr_inRow) (maxL := 2) (ret := (some .int)) pn_Pr rfl ?_
  intro p e s m args below meth c s₁ B hml hv
  obtain ⟨rfl, C, hP, hD, hS⟩ := enter "DecadeBridge$Protocol" rfl B hml hv
  obtain ⟨hx, hb, hr, hml, hown, hlk, hts, hK, hZo, hZ⟩ := id C
  refine entryW (lv := [(0, .ref qar), (1, .int p2)]) rfl (Nat.le_of_ble_eq_true rfl) (fun ls hl => ?_)
  obtain ⟨z, hz⟩ : ∃ z, z = sp_Pr_inRow30 p2 ff := ⟨_, rfl⟩
  rw [← hz]
  unfold sp_Pr_inRow30 at hz
  refine lv_iload_n hx hb d_Pr_inRow_0 rfl (lv_at hl 1 rfl) ?_
  refine lv_if_lt (tgt := 16) hx hb d_Pr_inRow_1 (by decide) (fun c1 => ?_) (fun c1 => ?_)
  · have hz := hz.trans (if_pos c1)
    exact k_Pr_inRow30_16 C () trivial _ hz _ _ ls hP hD hS (lv_sub hl [] rfl)
  · have hz := hz.trans (if_neg c1)
    refine lv_iload_n hx hb d_Pr_inRow_4 rfl (lv_at hl 1 rfl) ?_
    refine lv_aload_n hx hb d_Pr_inRow_5 rfl (lv_at hl 0 rfl) ?_
    refine alen C hP 0 rfl (t0 := 0) rfl (v := 30) (by decide) d_Pr_inRow_6 ?_
    refine lv_icmp_ge (tgt := 16) hx hb d_Pr_inRow_7 (by decide) (fun c2 => ?_) (fun c2 => ?_)
    · have hz := hz.trans (if_pos c2)
      exact k_Pr_inRow30_16 C () trivial _ hz _ _ ls hP hD hS (lv_sub hl [] rfl)
    · have hz := hz.trans (if_neg c2)
      refine lv_aload_n hx hb d_Pr_inRow_10 rfl (lv_at hl 0 rfl) ?_
      refine lv_iload_n hx hb d_Pr_inRow_11 rfl (lv_at hl 1 rfl) ?_
      refine ldI C hP 0 rfl (vi2 (vlo c1) (vhi c2) (by decide)) rfl d_Pr_inRow_12 ?_
      refine lv_goto (tgt := 17) hx hb d_Pr_inRow_13 (by decide) ?_
      exact endI0 C hz hP hS d_Pr_inRow_17
abbrev rm_Pr_inRow2 : Room := { frames := 0, cells := 0, slots := 0, locals := 0 }
def HL_Pr_inRow2_16 (p : Program) (l : Launch) (e : Env) (s : State) (m : MethodId) (args : Array Value) (below : List Frame) (meth : Method) (c : Code) (g : GX) (qar : Nat) (ff : IV) (sp : Int32) (ok : Prop) : Prop := ∀ (_ : Unit), ok → ∀ z : Int32, z = sp → ∀ (H : Heap) (locs : List Loc) (ls : Array Slot), va_P g.1 vwCl (wA2 g qar ff) H → va_D (inW (wA2 g qar ff)) (wA2 g qar ff) → va_S (inW (wA2 g qar ff)) s.heap H locs → lv_has ls 2 [] → W p l e rm_Pr_inRow2 s m args below meth c H locs 0 0 (MQ below (CI0 g (wA2 g qar ff) z) args s 0 0 (inW (wA2 g qar ff))) (F0 m 16 ls [])
noncomputable def sp_Pr_inRow2_16    : Int32 := (-1 : Int32)
def ok_Pr_inRow2_16     : Prop := True
set_option maxRecDepth 100000 in
set_option maxHeartbeats 4000000 in
theorem k_Pr_inRow2_16 {p : Program} {l : Launch} {e : Env} {s : State} {m : MethodId} {args : Array Value} {below : List Frame} {meth : Method} {c : Code} {g : GX} {qar : Nat} {ff : IV}  (C : Cx p s m args meth c (inW (wA2 g qar ff)) g "DecadeBridge$Protocol" b_Pr_inRow (some .int) 2)  : HL_Pr_inRow2_16 p l e s m args below meth c g qar ff (sp_Pr_inRow2_16  ) (ok_Pr_inRow2_16   ) := by
  intro _ hok z hz H locs ls hP hD hS hl
  obtain ⟨hx, hb, hr, hml, hown, hlk, hts, hK, hZo, hZ⟩ := id C
  unfold sp_Pr_inRow2_16 at hz
  refine lv_iconst (v := -1) hx hb d_Pr_inRow_16 (by decide) ?_
  exact endI0 C hz hP hS d_Pr_inRow_17
noncomputable def sp_Pr_inRow2 (p2 : Int32) (ff : IV) : Int32 := if p2 < 0 then (sp_Pr_inRow2_16) else (if (2 : Int32) ≤ p2 then (sp_Pr_inRow2_16) else (ff p2.toNatClampNeg))
set_option maxRecDepth 100000 in
set_option maxHeartbeats 4000000 in
theorem c_Pr_inRow2 (l : Launch) (g : GX) (qar : Nat) (ff : IV) (p2 : Int32) : Met l y_Pr_inRow (wsY y_Pr_inRow b_Pr_inRow 2 (some .int)) rm_Pr_inRow2 (CP g [.ref qar, .int p2] (wA2 g qar ff)) (CI0 g (wA2 g qar ff) (sp_Pr_inRow2 p2 ff)) 0 0 (inW (wA2 g qar ff)) := by
  refine Met.ofW (cc := b_Pr_inRow) (maxL := 2) (ret := (some .int)) pn_Pr rfl ?_
  intro p e s m args below meth c s₁ B hml hv
  obtain ⟨rfl, C, hP, hD, hS⟩ := enter "DecadeBridge$Protocol" rfl B hml hv
  obtain ⟨hx, hb, hr, hml, hown, hlk, hts, hK, hZo, hZ⟩ := id C
  refine entryW (lv := [(0, .ref qar), (1, .int p2)]) rfl (Nat.le_of_ble_eq_true rfl) (fun ls hl => ?_)
  obtain ⟨z, hz⟩ : ∃ z, z = sp_Pr_inRow2 p2 ff := ⟨_, rfl⟩
  rw [← hz]
  unfold sp_Pr_inRow2 at hz
  refine lv_iload_n hx hb d_Pr_inRow_0 rfl (lv_at hl 1 rfl) ?_
  refine lv_if_lt (tgt := 16) hx hb d_Pr_inRow_1 (by decide) (fun c1 => ?_) (fun c1 => ?_)
  · have hz := hz.trans (if_pos c1)
    exact k_Pr_inRow2_16 C () trivial _ hz _ _ ls hP hD hS (lv_sub hl [] rfl)
  · have hz := hz.trans (if_neg c1)
    refine lv_iload_n hx hb d_Pr_inRow_4 rfl (lv_at hl 1 rfl) ?_
    refine lv_aload_n hx hb d_Pr_inRow_5 rfl (lv_at hl 0 rfl) ?_
    refine alen C hP 0 rfl (t0 := 0) rfl (v := 2) (by decide) d_Pr_inRow_6 ?_
    refine lv_icmp_ge (tgt := 16) hx hb d_Pr_inRow_7 (by decide) (fun c2 => ?_) (fun c2 => ?_)
    · have hz := hz.trans (if_pos c2)
      exact k_Pr_inRow2_16 C () trivial _ hz _ _ ls hP hD hS (lv_sub hl [] rfl)
    · have hz := hz.trans (if_neg c2)
      refine lv_aload_n hx hb d_Pr_inRow_10 rfl (lv_at hl 0 rfl) ?_
      refine lv_iload_n hx hb d_Pr_inRow_11 rfl (lv_at hl 1 rfl) ?_
      refine ldI C hP 0 rfl (vi2 (vlo c1) (vhi c2) (by decide)) rfl d_Pr_inRow_12 ?_
      refine lv_goto (tgt := 17) hx hb d_Pr_inRow_13 (by decide) ?_
      exact endI0 C hz hP hS d_Pr_inRow_17
abbrev rm_Pr_wordOf : Room := { frames := 0, cells := 0, slots := 0, locals := 0 }
noncomputable def sp_Pr_wordOf (p1 : Int32) : Nat := if p1 = (0 : Int32) then (8) else (if p1 = (1 : Int32) then (9) else (if p1 = (2 : Int32) then (10) else (if p1 = (3 : Int32) then (11) else (if p1 = (4 : Int32) then (12) else (if p1 = (5 : Int32) then (13) else (if p1 = (6 : Int32) then (14) else (if p1 = (7 : Int32) then (15) else (if p1 = (8 : Int32) then (16) else (17)))))))))
set_option maxRecDepth 100000 in
set_option maxHeartbeats 4000000 in
theorem c_Pr_wordOf (l : Launch) (g : GX)   (p1 : Int32) : Met l y_Pr_wordOf (wsY y_Pr_wordOf b_Pr_wordOf 1 (some (.object "java/lang/String"))) rm_Pr_wordOf (CP g [.int p1] (wNil g )) (CS0 g (wNil g ) (sp_Pr_wordOf p1)) 0 0 (inW (wNil g )) := by
  refine Met.ofW (cc := b_Pr_wordOf) (maxL := 1) (ret := (some (.object "java/lang/String"))) pn_Pr rfl ?_
  intro p e s m args below meth c s₁ B hml hv
  obtain ⟨rfl, C, hP, hD, hS⟩ := enter "DecadeBridge$Protocol" rfl B hml hv
  obtain ⟨hx, hb, hr, hml, hown, hlk, hts, hK, hZo, hZ⟩ := id C
  refine entryW (lv := [(0, .int p1)]) rfl (Nat.le_of_ble_eq_true rfl) (fun ls hl => ?_)
  obtain ⟨z, hz⟩ : ∃ z, z = sp_Pr_wordOf p1 := ⟨_, rfl⟩
  rw [← hz]
  unfold sp_Pr_wordOf at hz
  refine lv_iload_n hx hb d_Pr_wordOf_0 rfl (lv_at hl 0 rfl) ?_
  by_cases c1_0 : p1 = (0 : Int32)
  · have hz := hz.trans (if_pos c1_0)
    refine lv_tableIn (x := p1) (off := 51) (tgt := 52) hx hb d_Pr_wordOf_1 (by rw [c1_0]; decide) (by rw [c1_0]; decide) (by rw [c1_0]; rfl) (by decide) ?_
    refine va_ldcS hx hb hown (zRef hZo hZ ("DecadeBridge$Protocol", 92, 8) (by decide +kernel)) d_Pr_wordOf_52 ?_
    exact endS0 C (Or.inl ⟨_, rfl⟩) hz hP hS d_Pr_wordOf_54
  have hz := hz.trans (if_neg c1_0)
  by_cases c1_1 : p1 = (1 : Int32)
  · have hz := hz.trans (if_pos c1_1)
    refine lv_tableIn (x := p1) (off := 54) (tgt := 55) hx hb d_Pr_wordOf_1 (by rw [c1_1]; decide) (by rw [c1_1]; decide) (by rw [c1_1]; rfl) (by decide) ?_
    refine va_ldcS hx hb hown (zRef hZo hZ ("DecadeBridge$Protocol", 94, 9) (by decide +kernel)) d_Pr_wordOf_55 ?_
    exact endS0 C (Or.inl ⟨_, rfl⟩) hz hP hS d_Pr_wordOf_57
  have hz := hz.trans (if_neg c1_1)
  by_cases c1_2 : p1 = (2 : Int32)
  · have hz := hz.trans (if_pos c1_2)
    refine lv_tableIn (x := p1) (off := 57) (tgt := 58) hx hb d_Pr_wordOf_1 (by rw [c1_2]; decide) (by rw [c1_2]; decide) (by rw [c1_2]; rfl) (by decide) ?_
    refine va_ldcS hx hb hown (zRef hZo hZ ("DecadeBridge$Protocol", 96, 10) (by decide +kernel)) d_Pr_wordOf_58 ?_
    exact endS0 C (Or.inl ⟨_, rfl⟩) hz hP hS d_Pr_wordOf_60
  have hz := hz.trans (if_neg c1_2)
  by_cases c1_3 : p1 = (3 : Int32)
  · have hz := hz.trans (if_pos c1_3)
    refine lv_tableIn (x := p1) (off := 60) (tgt := 61) hx hb d_Pr_wordOf_1 (by rw [c1_3]; decide) (by rw [c1_3]; decide) (by rw [c1_3]; rfl) (by decide) ?_
    refine va_ldcS hx hb hown (zRef hZo hZ ("DecadeBridge$Protocol", 98, 11) (by decide +kernel)) d_Pr_wordOf_61 ?_
    exact endS0 C (Or.inl ⟨_, rfl⟩) hz hP hS d_Pr_wordOf_63
  have hz := hz.trans (if_neg c1_3)
  by_cases c1_4 : p1 = (4 : Int32)
  · have hz := hz.trans (if_pos c1_4)
    refine lv_tableIn (x := p1) (off := 63) (tgt := 64) hx hb d_Pr_wordOf_1 (by rw [c1_4]; decide) (by rw [c1_4]; decide) (by rw [c1_4]; rfl) (by decide) ?_
    refine va_ldcS hx hb hown (zRef hZo hZ ("DecadeBridge$Protocol", 100, 12) (by decide +kernel)) d_Pr_wordOf_64 ?_
    exact endS0 C (Or.inl ⟨_, rfl⟩) hz hP hS d_Pr_wordOf_66
  have hz := hz.trans (if_neg c1_4)
  by_cases c1_5 : p1 = (5 : Int32)
  · have hz := hz.trans (if_pos c1_5)
    refine lv_tableIn (x := p1) (off := 66) (tgt := 67) hx hb d_Pr_wordOf_1 (by rw [c1_5]; decide) (by rw [c1_5]; decide) (by rw [c1_5]; rfl) (by decide) ?_
    refine va_ldcS hx hb hown (zRef hZo hZ ("DecadeBridge$Protocol", 102, 13) (by decide +kernel)) d_Pr_wordOf_67 ?_
    exact endS0 C (Or.inl ⟨_, rfl⟩) hz hP hS d_Pr_wordOf_69
  have hz := hz.trans (if_neg c1_5)
  by_cases c1_6 : p1 = (6 : Int32)
  · have hz := hz.trans (if_pos c1_6)
    refine lv_tableIn (x := p1) (off := 69) (tgt := 70) hx hb d_Pr_wordOf_1 (by rw [c1_6]; decide) (by rw [c1_6]; decide) (by rw [c1_6]; rfl) (by decide) ?_
    refine va_ldcS hx hb hown (zRef hZo hZ ("DecadeBridge$Protocol", 104, 14) (by decide +kernel)) d_Pr_wordOf_70 ?_
    exact endS0 C (Or.inl ⟨_, rfl⟩) hz hP hS d_Pr_wordOf_72
  have hz := hz.trans (if_neg c1_6)
  by_cases c1_7 : p1 = (7 : Int32)
  · have hz := hz.trans (if_pos c1_7)
    refine lv_tableIn (x := p1) (off := 72) (tgt := 73) hx hb d_Pr_wordOf_1 (by rw [c1_7]; decide) (by rw [c1_7]; decide) (by rw [c1_7]; rfl) (by decide) ?_
    refine va_ldcS hx hb hown (zRef hZo hZ ("DecadeBridge$Protocol", 106, 15) (by decide +kernel)) d_Pr_wordOf_73 ?_
    exact endS0 C (Or.inl ⟨_, rfl⟩) hz hP hS d_Pr_wordOf_75
  have hz := hz.trans (if_neg c1_7)
  by_cases c1_8 : p1 = (8 : Int32)
  · have hz := hz.trans (if_pos c1_8)
    refine lv_tableIn (x := p1) (off := 75) (tgt := 76) hx hb d_Pr_wordOf_1 (by rw [c1_8]; decide) (by rw [c1_8]; decide) (by rw [c1_8]; rfl) (by decide) ?_
    refine va_ldcS hx hb hown (zRef hZo hZ ("DecadeBridge$Protocol", 108, 16) (by decide +kernel)) d_Pr_wordOf_76 ?_
    exact endS0 C (Or.inl ⟨_, rfl⟩) hz hP hS d_Pr_wordOf_78
  have hz := hz.trans (if_neg c1_8)
  refine lv_tableOut (x := p1) (tgt := 79) hx hb d_Pr_wordOf_1 (tswL (x := p1) (lo := 0) (hi := 8) 9 [(0 : Int32), (1 : Int32), (2 : Int32), (3 : Int32), (4 : Int32), (5 : Int32), (6 : Int32), (7 : Int32), (8 : Int32)] (by decide) (by decide) (List.forall_mem_cons.mpr ⟨c1_0, List.forall_mem_cons.mpr ⟨c1_1, List.forall_mem_cons.mpr ⟨c1_2, List.forall_mem_cons.mpr ⟨c1_3, List.forall_mem_cons.mpr ⟨c1_4, List.forall_mem_cons.mpr ⟨c1_5, List.forall_mem_cons.mpr ⟨c1_6, List.forall_mem_cons.mpr ⟨c1_7, List.forall_mem_cons.mpr ⟨c1_8, fun _ h => absurd h List.not_mem_nil⟩⟩⟩⟩⟩⟩⟩⟩⟩)) (by decide) ?_
  refine va_ldcS hx hb hown (zRef hZo hZ ("DecadeBridge$Protocol", 110, 17) (by decide +kernel)) d_Pr_wordOf_79 ?_
  exact endS0 C (Or.inl ⟨_, rfl⟩) hz hP hS d_Pr_wordOf_81
abbrev rm_Pr_start : Room := { frames := 0, cells := 0, slots := 0, locals := 0 }
noncomputable def sp_Pr_start (pi : IV) : IV := lett (upd pi 9 (0 : Int32)) fun (pi_1 : IV) => lett (upd pi_1 8 (0 : Int32)) fun (pi_2 : IV) => pi_2
set_option maxRecDepth 100000 in
set_option maxHeartbeats 4000000 in
theorem c_Pr_start (l : Launch) (g : GX) (qpr : Nat) (qpro : Nat) (qprf : Nat) (qprs : Nat) (qprb : Nat) (qprn : Nat) (qprt : Nat) (qte : Nat) (qteb : Nat) (pi : IV) (po : IV) (pf : IV) (ps : IV) (pb : IV) (pn : IV) (pt : IV) (t : IV) (tb : IV)  : Met l y_Pr_start (wsY y_Pr_start b_Pr_start 1 none) rm_Pr_start (CP g [.ref qpr] (wPr g qpr qpro qprf qprs qprb qprn qprt qte qteb pi po pf ps pb pn pt t tb)) (CV g (wPr g qpr qpro qprf qprs qprb qprn qprt qte qteb pi po pf ps pb pn pt t tb) (fun u : IV => wPr g qpr qpro qprf qprs qprb qprn qprt qte qteb u po pf ps pb pn pt t tb) (sp_Pr_start pi)) 0 0 (inW (wPr g qpr qpro qprf qprs qprb qprn qprt qte qteb pi po pf ps pb pn pt t tb)) := by
  refine Met.ofW (cc := b_Pr_start) (maxL := 1) (ret := none) pn_Pr rfl ?_
  intro p e s m args below meth c s₁ B hml hv
  obtain ⟨rfl, C, hP, hD, hS⟩ := enter "DecadeBridge$Protocol" rfl B hml hv
  obtain ⟨hx, hb, hr, hml, hown, hlk, hts, hK, hZo, hZ⟩ := id C
  refine entryW (lv := [(0, .ref qpr)]) rfl (Nat.le_of_ble_eq_true rfl) (fun ls hl => ?_)
  obtain ⟨z, hz⟩ : ∃ z, z = sp_Pr_start pi := ⟨_, rfl⟩
  rw [← hz]
  unfold sp_Pr_start at hz
  refine lv_aload_n hx hb d_Pr_start_0 rfl (lv_at hl 0 rfl) ?_
  refine lv_iconst (v := 0) hx hb d_Pr_start_1 (by decide) ?_
  refine pfI C hP hD hS 0 9 fkPr rfl (by decide) rfl qf_Pr_120 rfl rfl rfl (Nat.le_of_ble_eq_true rfl) (ff := fun o => fPr qte qpro qprf qprs qprb qprn qprt o) (sPr_9 _ _ _ _ _ _ _ _ _) d_Pr_start_2 (fun pi_1 epi_1 H locs hP hD hS => ?_)
  have hP : va_P g.1 vwCl (wPr g qpr qpro qprf qprs qprb qprn qprt qte qteb pi_1 po pf ps pb pn pt t tb) H := hP
  have hD : va_D (inW (wPr g qpr qpro qprf qprs qprb qprn qprt qte qteb pi po pf ps pb pn pt t tb)) (wPr g qpr qpro qprf qprs qprb qprn qprt qte qteb pi_1 po pf ps pb pn pt t tb) := hD
  have hz := lett_z hz epi_1
  refine lv_aload_n hx hb d_Pr_start_5 rfl (lv_at hl 0 rfl) ?_
  refine lv_iconst (v := 0) hx hb d_Pr_start_6 (by decide) ?_
  refine pfI C hP hD hS 0 8 fkPr rfl (by decide) rfl qf_Pr_42 rfl rfl rfl (Nat.le_of_ble_eq_true rfl) (ff := fun o => fPr qte qpro qprf qprs qprb qprn qprt o) (sPr_8 _ _ _ _ _ _ _ _ _) d_Pr_start_7 (fun pi_2 epi_2 H locs hP hD hS => ?_)
  have hP : va_P g.1 vwCl (wPr g qpr qpro qprf qprs qprb qprn qprt qte qteb pi_2 po pf ps pb pn pt t tb) H := hP
  have hD : va_D (inW (wPr g qpr qpro qprf qprs qprb qprn qprt qte qteb pi po pf ps pb pn pt t tb)) (wPr g qpr qpro qprf qprs qprb qprn qprt qte qteb pi_2 po pf ps pb pn pt t tb) := hD
  have hz := lett_z hz epi_2
  exact endV C hz hP hS d_Pr_start_10
abbrev rm_Pr_enter : Room := { frames := 1, cells := 0, slots := 0, locals := 21 }
def HL_Pr_enter_81 (p : Program) (l : Launch) (e : Env) (s : State) (m : MethodId) (args : Array Value) (below : List Frame) (meth : Method) (c : Code) (g : GX) (qpr : Nat) (qpro : Nat) (qprf : Nat) (qprs : Nat) (qprb : Nat) (qprn : Nat) (qprt : Nat) (qte : Nat) (qteb : Nat) (ws0 : va_W) (pi : IV) (po : IV) (pf : IV) (ps : IV) (pb : IV) (pn : IV) (pt : IV) (t : IV) (tb : IV) (sp : (IV × IV × IV)) (ok : Prop) : Prop := ∀ (_ : Unit), ok → ∀ z : (IV × IV × IV), z = sp → ∀ (H : Heap) (locs : List Loc) (ls : Array Slot), va_P g.1 vwCl (wPr g qpr qpro qprf qprs qprb qprn qprt qte qteb pi po pf ps pb pn pt t tb) H → va_D (inW ws0) (wPr g qpr qpro qprf qprs qprb qprn qprt qte qteb pi po pf ps pb pn pt t tb) → va_S (inW ws0) s.heap H locs → lv_has ls 2 [(0, .ref qpr)] → W p l e rm_Pr_enter s m args below meth c H locs 0 0 (MQ below (CV g ws0 (fun u : IV × IV × IV => wPr g qpr qpro qprf qprs qprb qprn qprt qte qteb u.1 po pf ps pb u.2.1 u.2.2 t tb) z) args s 0 0 (inW ws0)) (F0 m 81 ls [])
noncomputable def sp_Pr_enter_81 (pi : IV) (pb : IV) (pn : IV) (pt : IV)   : IV × IV × IV := lett (sp_Pr_inRow30 (pi 9) pb) fun (y9 : Int32) => lett (upd pi 9 y9) fun (pi_10 : IV) => (pi_10, pn, pt)
def ok_Pr_enter_81 (pi : IV) (pb : IV) (pn : IV) (pt : IV)    : Prop := True
set_option maxRecDepth 100000 in
set_option maxHeartbeats 4000000 in
theorem k_Pr_enter_81 {p : Program} {l : Launch} {e : Env} {s : State} {m : MethodId} {args : Array Value} {below : List Frame} {meth : Method} {c : Code} {g : GX} {qpr : Nat} {qpro : Nat} {qprf : Nat} {qprs : Nat} {qprb : Nat} {qprn : Nat} {qprt : Nat} {qte : Nat} {qteb : Nat} {ws0 : va_W} {pi : IV} {po : IV} {pf : IV} {ps : IV} {pb : IV} {pn : IV} {pt : IV} {t : IV} {tb : IV}  (C : Cx p s m args meth c (inW ws0) g "DecadeBridge$Protocol" b_Pr_enter none 2)  : HL_Pr_enter_81 p l e s m args below meth c g qpr qpro qprf qprs qprb qprn qprt qte qteb ws0 pi po pf ps pb pn pt t tb (sp_Pr_enter_81 pi pb pn pt ) (ok_Pr_enter_81 pi pb pn pt  ) := by
  intro _ hok z hz H locs ls hP hD hS hl
  obtain ⟨hx, hb, hr, hml, hown, hlk, hts, hK, hZo, hZ⟩ := id C
  unfold sp_Pr_enter_81 at hz
  refine lv_aload_n hx hb d_Pr_enter_81 rfl (lv_at hl 0 rfl) ?_
  refine lv_aload_n hx hb d_Pr_enter_82 rfl (lv_at hl 0 rfl) ?_
  refine gf C hP 0 4 fkPr rfl (by decide) rfl qf_Pr_21 (gPr_4 _ _ _ _ _ _ _ _) d_Pr_enter_83 ?_
  refine lv_aload_n hx hb d_Pr_enter_86 rfl (lv_at hl 0 rfl) ?_
  refine gf C hP 0 9 fkPr rfl (by decide) rfl qf_Pr_120 (gPr_9 _ _ _ _ _ _ _ _) d_Pr_enter_87 ?_
  have hB : SubW g (inW ws0) s (wPr g qpr qpro qprf qprs qprb qprn qprt qte qteb pi po pf ps pb pn pt t tb) (wA30 g qprb pb) [4] _ _ := ⟨rfl, rfl, hP, hD, hS⟩
  refine goI0 hB (run_s C mf_Pr_inRow qm_Pr_34 (c_Pr_inRow30 l g qprb pb (pi 9)) rfl rfl ⟨Nat.le_of_ble_eq_true rfl, Nat.le_of_ble_eq_true rfl⟩ ⟨Nat.le_of_ble_eq_true rfl, Nat.le_of_ble_eq_true rfl⟩ hB hl rfl rfl (Nat.le_of_ble_eq_true rfl) d_Pr_enter_90) (fun y9 ey9 H locs hP hS => ?_)
  have hz := lett_z hz ey9
  refine pfI C hP hD hS 0 9 fkPr rfl (by decide) rfl qf_Pr_120 rfl rfl rfl (Nat.le_of_ble_eq_true rfl) (ff := fun o => fPr qte qpro qprf qprs qprb qprn qprt o) (sPr_9 _ _ _ _ _ _ _ _ _) d_Pr_enter_93 (fun pi_10 epi_10 H locs hP hD hS => ?_)
  have hP : va_P g.1 vwCl (wPr g qpr qpro qprf qprs qprb qprn qprt qte qteb pi_10 po pf ps pb pn pt t tb) H := hP
  have hD : va_D (inW ws0) (wPr g qpr qpro qprf qprs qprb qprn qprt qte qteb pi_10 po pf ps pb pn pt t tb) := hD
  have hz := lett_z hz epi_10
  exact endV C hz hP hS d_Pr_enter_96
noncomputable def sp_Pr_enter (p1 : Int32) (pi : IV) (pb : IV) (pn : IV) (pt : IV) : IV × IV × IV := if p1 ≤ 0 then (sp_Pr_enter_81 pi pb pn pt) else (if (pi 8) < 0 then (sp_Pr_enter_81 pi pb pn pt) else (if (2 : Int32) ≤ (pi 8) then (sp_Pr_enter_81 pi pb pn pt) else (if (2 : Int32) ≤ (pi 8) then (sp_Pr_enter_81 pi pb pn pt) else (lett (upd pn (pi 8).toNatClampNeg (pi 9)) fun (pn_5 : IV) => lett (upd pt (pi 8).toNatClampNeg p1) fun (pt_6 : IV) => lett (upd pi 8 ((pi 8) + (1 : Int32))) fun (pi_7 : IV) => lett (upd pi_7 9 ((pi_7 9) + (1 : Int32))) fun (pi_8 : IV) => (pi_8, pn_5, pt_6)))))
set_option maxRecDepth 100000 in
set_option maxHeartbeats 4000000 in
theorem c_Pr_enter (l : Launch) (g : GX) (qpr : Nat) (qpro : Nat) (qprf : Nat) (qprs : Nat) (qprb : Nat) (qprn : Nat) (qprt : Nat) (qte : Nat) (qteb : Nat) (pi : IV) (po : IV) (pf : IV) (ps : IV) (pb : IV) (pn : IV) (pt : IV) (t : IV) (tb : IV) (p1 : Int32) : Met l y_Pr_enter (wsY y_Pr_enter b_Pr_enter 2 none) rm_Pr_enter (CP g [.ref qpr, .int p1] (wPr g qpr qpro qprf qprs qprb qprn qprt qte qteb pi po pf ps pb pn pt t tb)) (CV g (wPr g qpr qpro qprf qprs qprb qprn qprt qte qteb pi po pf ps pb pn pt t tb) (fun u : IV × IV × IV => wPr g qpr qpro qprf qprs qprb qprn qprt qte qteb u.1 po pf ps pb u.2.1 u.2.2 t tb) (sp_Pr_enter p1 pi pb pn pt)) 0 0 (inW (wPr g qpr qpro qprf qprs qprb qprn qprt qte qteb pi po pf ps pb pn pt t tb)) := by
  refine Met.ofW (cc := b_Pr_enter) (maxL := 2) (ret := none) pn_Pr rfl ?_
  intro p e s m args below meth c s₁ B hml hv
  obtain ⟨rfl, C, hP, hD, hS⟩ := enter "DecadeBridge$Protocol" rfl B hml hv
  obtain ⟨hx, hb, hr, hml, hown, hlk, hts, hK, hZo, hZ⟩ := id C
  refine entryW (lv := [(0, .ref qpr), (1, .int p1)]) rfl (Nat.le_of_ble_eq_true rfl) (fun ls hl => ?_)
  obtain ⟨z, hz⟩ : ∃ z, z = sp_Pr_enter p1 pi pb pn pt := ⟨_, rfl⟩
  rw [← hz]
  unfold sp_Pr_enter at hz
  refine lv_iload_n hx hb d_Pr_enter_0 rfl (lv_at hl 1 rfl) ?_
  refine lv_if_le (tgt := 81) hx hb d_Pr_enter_1 (by decide) (fun c1 => ?_) (fun c1 => ?_)
  · have hz := hz.trans (if_pos c1)
    exact k_Pr_enter_81 C () trivial _ hz _ _ ls hP hD hS (lv_sub hl [0] rfl)
  · have hz := hz.trans (if_neg c1)
    refine lv_aload_n hx hb d_Pr_enter_4 rfl (lv_at hl 0 rfl) ?_
    refine gf C hP 0 8 fkPr rfl (by decide) rfl qf_Pr_42 (gPr_8 _ _ _ _ _ _ _ _) d_Pr_enter_5 ?_
    refine lv_if_lt (tgt := 81) hx hb d_Pr_enter_8 (by decide) (fun c2 => ?_) (fun c2 => ?_)
    · have hz := hz.trans (if_pos c2)
      exact k_Pr_enter_81 C () trivial _ hz _ _ ls hP hD hS (lv_sub hl [0] rfl)
    · have hz := hz.trans (if_neg c2)
      refine lv_aload_n hx hb d_Pr_enter_11 rfl (lv_at hl 0 rfl) ?_
      refine gf C hP 0 8 fkPr rfl (by decide) rfl qf_Pr_42 (gPr_8 _ _ _ _ _ _ _ _) d_Pr_enter_12 ?_
      refine lv_aload_n hx hb d_Pr_enter_15 rfl (lv_at hl 0 rfl) ?_
      refine gf C hP 0 5 fkPr rfl (by decide) rfl qf_Pr_24 (gPr_5 _ _ _ _ _ _ _ _) d_Pr_enter_16 ?_
      refine alen C hP 5 rfl (t0 := 0) rfl (v := 2) (by decide) d_Pr_enter_19 ?_
      refine lv_icmp_ge (tgt := 81) hx hb d_Pr_enter_20 (by decide) (fun c3 => ?_) (fun c3 => ?_)
      · have hz := hz.trans (if_pos c3)
        exact k_Pr_enter_81 C () trivial _ hz _ _ ls hP hD hS (lv_sub hl [0] rfl)
      · have hz := hz.trans (if_neg c3)
        refine lv_aload_n hx hb d_Pr_enter_23 rfl (lv_at hl 0 rfl) ?_
        refine gf C hP 0 8 fkPr rfl (by decide) rfl qf_Pr_42 (gPr_8 _ _ _ _ _ _ _ _) d_Pr_enter_24 ?_
        refine lv_aload_n hx hb d_Pr_enter_27 rfl (lv_at hl 0 rfl) ?_
        refine gf C hP 0 6 fkPr rfl (by decide) rfl qf_Pr_27 (gPr_6 _ _ _ _ _ _ _ _) d_Pr_enter_28 ?_
        refine alen C hP 6 rfl (t0 := 0) rfl (v := 2) (by decide) d_Pr_enter_31 ?_
        refine lv_icmp_ge (tgt := 81) hx hb d_Pr_enter_32 (by decide) (fun c4 => ?_) (fun c4 => ?_)
        · have hz := hz.trans (if_pos c4)
          exact k_Pr_enter_81 C () trivial _ hz _ _ ls hP hD hS (lv_sub hl [0] rfl)
        · have hz := hz.trans (if_neg c4)
          refine lv_aload_n hx hb d_Pr_enter_35 rfl (lv_at hl 0 rfl) ?_
          refine gf C hP 0 5 fkPr rfl (by decide) rfl qf_Pr_24 (gPr_5 _ _ _ _ _ _ _ _) d_Pr_enter_36 ?_
          refine lv_aload_n hx hb d_Pr_enter_39 rfl (lv_at hl 0 rfl) ?_
          refine gf C hP 0 8 fkPr rfl (by decide) rfl qf_Pr_42 (gPr_8 _ _ _ _ _ _ _ _) d_Pr_enter_40 ?_
          refine lv_aload_n hx hb d_Pr_enter_43 rfl (lv_at hl 0 rfl) ?_
          refine gf C hP 0 9 fkPr rfl (by decide) rfl qf_Pr_120 (gPr_9 _ _ _ _ _ _ _ _) d_Pr_enter_44 ?_
          refine stI C hP hD hS 5 rfl (vi2 (vlo c2) (vhi c4) (by decide)) rfl d_Pr_enter_47 (fun pn_5 epn_5 H locs hP hD hS => ?_)
          have hP : va_P g.1 vwCl (wPr g qpr qpro qprf qprs qprb qprn qprt qte qteb pi po pf ps pb pn_5 pt t tb) H := hP
          have hD : va_D (inW (wPr g qpr qpro qprf qprs qprb qprn qprt qte qteb pi po pf ps pb pn pt t tb)) (wPr g qpr qpro qprf qprs qprb qprn qprt qte qteb pi po pf ps pb pn_5 pt t tb) := hD
          have hz := lett_z hz epn_5
          refine lv_aload_n hx hb d_Pr_enter_48 rfl (lv_at hl 0 rfl) ?_
          refine gf C hP 0 6 fkPr rfl (by decide) rfl qf_Pr_27 (gPr_6 _ _ _ _ _ _ _ _) d_Pr_enter_49 ?_
          refine lv_aload_n hx hb d_Pr_enter_52 rfl (lv_at hl 0 rfl) ?_
          refine gf C hP 0 8 fkPr rfl (by decide) rfl qf_Pr_42 (gPr_8 _ _ _ _ _ _ _ _) d_Pr_enter_53 ?_
          refine lv_iload_n hx hb d_Pr_enter_56 rfl (lv_at hl 1 rfl) ?_
          refine stI C hP hD hS 6 rfl (vi2 (vlo c2) (vhi c4) (by decide)) rfl d_Pr_enter_57 (fun pt_6 ept_6 H locs hP hD hS => ?_)
          have hP : va_P g.1 vwCl (wPr g qpr qpro qprf qprs qprb qprn qprt qte qteb pi po pf ps pb pn_5 pt_6 t tb) H := hP
          have hD : va_D (inW (wPr g qpr qpro qprf qprs qprb qprn qprt qte qteb pi po pf ps pb pn pt t tb)) (wPr g qpr qpro qprf qprs qprb qprn qprt qte qteb pi po pf ps pb pn_5 pt_6 t tb) := hD
          have hz := lett_z hz ept_6
          refine lv_aload_n hx hb d_Pr_enter_58 rfl (lv_at hl 0 rfl) ?_
          refine lv_dup hx hb d_Pr_enter_59 rfl ?_
          refine gf C hP 0 8 fkPr rfl (by decide) rfl qf_Pr_42 (gPr_8 _ _ _ _ _ _ _ _) d_Pr_enter_60 ?_
          refine lv_iconst (v := 1) hx hb d_Pr_enter_63 (by decide) ?_
          refine lv_iadd hx hb d_Pr_enter_64 ?_
          refine pfI C hP hD hS 0 8 fkPr rfl (by decide) rfl qf_Pr_42 rfl rfl rfl (Nat.le_of_ble_eq_true rfl) (ff := fun o => fPr qte qpro qprf qprs qprb qprn qprt o) (sPr_8 _ _ _ _ _ _ _ _ _) d_Pr_enter_65 (fun pi_7 epi_7 H locs hP hD hS => ?_)
          have hP : va_P g.1 vwCl (wPr g qpr qpro qprf qprs qprb qprn qprt qte qteb pi_7 po pf ps pb pn_5 pt_6 t tb) H := hP
          have hD : va_D (inW (wPr g qpr qpro qprf qprs qprb qprn qprt qte qteb pi po pf ps pb pn pt t tb)) (wPr g qpr qpro qprf qprs qprb qprn qprt qte qteb pi_7 po pf ps pb pn_5 pt_6 t tb) := hD
          have hz := lett_z hz epi_7
          refine lv_aload_n hx hb d_Pr_enter_68 rfl (lv_at hl 0 rfl) ?_
          refine lv_dup hx hb d_Pr_enter_69 rfl ?_
          refine gf C hP 0 9 fkPr rfl (by decide) rfl qf_Pr_120 (gPr_9 _ _ _ _ _ _ _ _) d_Pr_enter_70 ?_
          refine lv_iconst (v := 1) hx hb d_Pr_enter_73 (by decide) ?_
          refine lv_iadd hx hb d_Pr_enter_74 ?_
          refine pfI C hP hD hS 0 9 fkPr rfl (by decide) rfl qf_Pr_120 rfl rfl rfl (Nat.le_of_ble_eq_true rfl) (ff := fun o => fPr qte qpro qprf qprs qprb qprn qprt o) (sPr_9 _ _ _ _ _ _ _ _ _) d_Pr_enter_75 (fun pi_8 epi_8 H locs hP hD hS => ?_)
          have hP : va_P g.1 vwCl (wPr g qpr qpro qprf qprs qprb qprn qprt qte qteb pi_8 po pf ps pb pn_5 pt_6 t tb) H := hP
          have hD : va_D (inW (wPr g qpr qpro qprf qprs qprb qprn qprt qte qteb pi po pf ps pb pn pt t tb)) (wPr g qpr qpro qprf qprs qprb qprn qprt qte qteb pi_8 po pf ps pb pn_5 pt_6 t tb) := hD
          have hz := lett_z hz epi_8
          refine lv_goto (tgt := 96) hx hb d_Pr_enter_78 (by decide) ?_
          exact endV C hz hP hS d_Pr_enter_96
abbrev rm_Pr_endTurn : Room := { frames := 0, cells := 0, slots := 0, locals := 0 }
def HL_Pr_endTurn_50 (p : Program) (l : Launch) (e : Env) (s : State) (m : MethodId) (args : Array Value) (below : List Frame) (meth : Method) (c : Code) (g : GX) (qpr : Nat) (qpro : Nat) (qprf : Nat) (qprs : Nat) (qprb : Nat) (qprn : Nat) (qprt : Nat) (qte : Nat) (qteb : Nat) (ws0 : va_W) (pi : IV) (po : IV) (pf : IV) (ps : IV) (pb : IV) (pn : IV) (pt : IV) (t : IV) (tb : IV) (v1 : Int32) (sp : (IV × IV)) (ok : Prop) : Prop := ∀ (_ : Unit), ok → ∀ z : (IV × IV), z = sp → ∀ (H : Heap) (locs : List Loc) (ls : Array Slot), va_P g.1 vwCl (wPr g qpr qpro qprf qprs qprb qprn qprt qte qteb pi po pf ps pb pn pt t tb) H → va_D (inW ws0) (wPr g qpr qpro qprf qprs qprb qprn qprt qte qteb pi po pf ps pb pn pt t tb) → va_S (inW ws0) s.heap H locs → lv_has ls 3 [(0, .ref qpr), (2, .int v1)] → W p l e rm_Pr_endTurn s m args below meth c H locs 0 0 (MQ below (CV g ws0 (fun u : IV × IV => wPr g qpr qpro qprf qprs qprb qprn qprt qte qteb u.1 po pf ps pb pn u.2 t tb) z) args s 0 0 (inW ws0)) (F0 m 50 ls [])
noncomputable def sp_Pr_endTurn_50 (pi : IV) (v1 : Int32) (pt : IV)   : IV × IV := lett (upd pi 8 v1) fun (pi_7 : IV) => (pi_7, pt)
def ok_Pr_endTurn_50 (pi : IV) (v1 : Int32) (pt : IV)    : Prop := True
set_option maxRecDepth 100000 in
set_option maxHeartbeats 4000000 in
theorem k_Pr_endTurn_50 {p : Program} {l : Launch} {e : Env} {s : State} {m : MethodId} {args : Array Value} {below : List Frame} {meth : Method} {c : Code} {g : GX} {qpr : Nat} {qpro : Nat} {qprf : Nat} {qprs : Nat} {qprb : Nat} {qprn : Nat} {qprt : Nat} {qte : Nat} {qteb : Nat} {ws0 : va_W} {pi : IV} {po : IV} {pf : IV} {ps : IV} {pb : IV} {pn : IV} {pt : IV} {t : IV} {tb : IV} {v1 : Int32}  (C : Cx p s m args meth c (inW ws0) g "DecadeBridge$Protocol" b_Pr_endTurn none 3)  : HL_Pr_endTurn_50 p l e s m args below meth c g qpr qpro qprf qprs qprb qprn qprt qte qteb ws0 pi po pf ps pb pn pt t tb v1 (sp_Pr_endTurn_50 pi v1 pt ) (ok_Pr_endTurn_50 pi v1 pt  ) := by
  intro _ hok z hz H locs ls hP hD hS hl
  obtain ⟨hx, hb, hr, hml, hown, hlk, hts, hK, hZo, hZ⟩ := id C
  unfold sp_Pr_endTurn_50 at hz
  refine lv_aload_n hx hb d_Pr_endTurn_50 rfl (lv_at hl 0 rfl) ?_
  refine lv_iload_n hx hb d_Pr_endTurn_51 rfl (lv_at hl 1 rfl) ?_
  refine pfI C hP hD hS 0 8 fkPr rfl (by decide) rfl qf_Pr_42 rfl rfl rfl (Nat.le_of_ble_eq_true rfl) (ff := fun o => fPr qte qpro qprf qprs qprb qprn qprt o) (sPr_8 _ _ _ _ _ _ _ _ _) d_Pr_endTurn_52 (fun pi_7 epi_7 H locs hP hD hS => ?_)
  have hP : va_P g.1 vwCl (wPr g qpr qpro qprf qprs qprb qprn qprt qte qteb pi_7 po pf ps pb pn pt t tb) H := hP
  have hD : va_D (inW ws0) (wPr g qpr qpro qprf qprs qprb qprn qprt qte qteb pi_7 po pf ps pb pn pt t tb) := hD
  have hz := lett_z hz epi_7
  exact endV C hz hP hS d_Pr_endTurn_55
noncomputable def sp_Pr_endTurn (p1 : Int32) (pi : IV) (pt : IV) : IV × IV := lett ((pi 8) - (1 : Int32)) fun (v1 : Int32) => if v1 < 0 then (sp_Pr_endTurn_50 pi v1 pt) else (if (2 : Int32) ≤ v1 then (sp_Pr_endTurn_50 pi v1 pt) else (if (pt v1.toNatClampNeg) ≤ (1 : Int32) then (sp_Pr_endTurn_50 pi v1 pt) else (lett (upd pt v1.toNatClampNeg ((pt v1.toNatClampNeg) - (1 : Int32))) fun (pt_5 : IV) => lett (upd pi 9 (p1 + (1 : Int32))) fun (pi_6 : IV) => (pi_6, pt_5))))
set_option maxRecDepth 100000 in
set_option maxHeartbeats 4000000 in
theorem c_Pr_endTurn (l : Launch) (g : GX) (qpr : Nat) (qpro : Nat) (qprf : Nat) (qprs : Nat) (qprb : Nat) (qprn : Nat) (qprt : Nat) (qte : Nat) (qteb : Nat) (pi : IV) (po : IV) (pf : IV) (ps : IV) (pb : IV) (pn : IV) (pt : IV) (t : IV) (tb : IV) (p1 : Int32) : Met l y_Pr_endTurn (wsY y_Pr_endTurn b_Pr_endTurn 3 none) rm_Pr_endTurn (CP g [.ref qpr, .int p1] (wPr g qpr qpro qprf qprs qprb qprn qprt qte qteb pi po pf ps pb pn pt t tb)) (CV g (wPr g qpr qpro qprf qprs qprb qprn qprt qte qteb pi po pf ps pb pn pt t tb) (fun u : IV × IV => wPr g qpr qpro qprf qprs qprb qprn qprt qte qteb u.1 po pf ps pb pn u.2 t tb) (sp_Pr_endTurn p1 pi pt)) 0 0 (inW (wPr g qpr qpro qprf qprs qprb qprn qprt qte qteb pi po pf ps pb pn pt t tb)) := by
  refine Met.ofW (cc := b_Pr_endTurn) (maxL := 3) (ret := none) pn_Pr rfl ?_
  intro p e s m args below meth c s₁ B hml hv
  obtain ⟨rfl, C, hP, hD, hS⟩ := enter "DecadeBridge$Protocol" rfl B hml hv
  obtain ⟨hx, hb, hr, hml, hown, hlk, hts, hK, hZo, hZ⟩ := id C
  refine entryW (lv := [(0, .ref qpr), (1, .int p1)]) rfl (Nat.le_of_ble_eq_true rfl) (fun ls hl => ?_)
  obtain ⟨z, hz⟩ : ∃ z, z = sp_Pr_endTurn p1 pi pt := ⟨_, rfl⟩
  rw [← hz]
  unfold sp_Pr_endTurn at hz
  refine lv_aload_n hx hb d_Pr_endTurn_0 rfl (lv_at hl 0 rfl) ?_
  refine gf C hP 0 8 fkPr rfl (by decide) rfl qf_Pr_42 (gPr_8 _ _ _ _ _ _ _ _) d_Pr_endTurn_1 ?_
  refine lv_iconst (v := 1) hx hb d_Pr_endTurn_4 (by decide) ?_
  refine lv_isub hx hb d_Pr_endTurn_5 ?_
  refine lv_topi (fun v1 ev1 => ?_)
  have hz := lett_z hz ev1
  refine lv_istore_n (lv' := [(2, .int v1), (0, .ref qpr), (1, .int p1)]) hx hb d_Pr_endTurn_6 rfl hl (by decide) rfl (fun ls hl => ?_)
  refine lv_iload_n hx hb d_Pr_endTurn_7 rfl (lv_at hl 0 rfl) ?_
  refine lv_if_lt (tgt := 50) hx hb d_Pr_endTurn_8 (by decide) (fun c2 => ?_) (fun c2 => ?_)
  · have hz := hz.trans (if_pos c2)
    exact k_Pr_endTurn_50 C () trivial _ hz _ _ ls hP hD hS (lv_sub hl [1, 0] rfl)
  · have hz := hz.trans (if_neg c2)
    refine lv_iload_n hx hb d_Pr_endTurn_11 rfl (lv_at hl 0 rfl) ?_
    refine lv_aload_n hx hb d_Pr_endTurn_12 rfl (lv_at hl 1 rfl) ?_
    refine gf C hP 0 6 fkPr rfl (by decide) rfl qf_Pr_27 (gPr_6 _ _ _ _ _ _ _ _) d_Pr_endTurn_13 ?_
    refine alen C hP 6 rfl (t0 := 0) rfl (v := 2) (by decide) d_Pr_endTurn_16 ?_
    refine lv_icmp_ge (tgt := 50) hx hb d_Pr_endTurn_17 (by decide) (fun c3 => ?_) (fun c3 => ?_)
    · have hz := hz.trans (if_pos c3)
      exact k_Pr_endTurn_50 C () trivial _ hz _ _ ls hP hD hS (lv_sub hl [1, 0] rfl)
    · have hz := hz.trans (if_neg c3)
      refine lv_aload_n hx hb d_Pr_endTurn_20 rfl (lv_at hl 1 rfl) ?_
      refine gf C hP 0 6 fkPr rfl (by decide) rfl qf_Pr_27 (gPr_6 _ _ _ _ _ _ _ _) d_Pr_endTurn_21 ?_
      refine lv_iload_n hx hb d_Pr_endTurn_24 rfl (lv_at hl 0 rfl) ?_
      refine ldI C hP 6 rfl (vi2 (vlo c2) (vhi c3) (by decide)) rfl d_Pr_endTurn_25 ?_
      refine lv_iconst (v := 1) hx hb d_Pr_endTurn_26 (by decide) ?_
      refine lv_icmp_le (tgt := 50) hx hb d_Pr_endTurn_27 (by decide) (fun c4 => ?_) (fun c4 => ?_)
      · have hz := hz.trans (if_pos c4)
        exact k_Pr_endTurn_50 C () trivial _ hz _ _ ls hP hD hS (lv_sub hl [1, 0] rfl)
      · have hz := hz.trans (if_neg c4)
        refine lv_aload_n hx hb d_Pr_endTurn_30 rfl (lv_at hl 1 rfl) ?_
        refine gf C hP 0 6 fkPr rfl (by decide) rfl qf_Pr_27 (gPr_6 _ _ _ _ _ _ _ _) d_Pr_endTurn_31 ?_
        refine lv_iload_n hx hb d_Pr_endTurn_34 rfl (lv_at hl 0 rfl) ?_
        refine lv_dup2_11 hx hb d_Pr_endTurn_35 rfl rfl ?_
        refine ldI C hP 6 rfl (vi2 (vlo c2) (vhi c3) (by decide)) rfl d_Pr_endTurn_36 ?_
        refine lv_iconst (v := 1) hx hb d_Pr_endTurn_37 (by decide) ?_
        refine lv_isub hx hb d_Pr_endTurn_38 ?_
        refine stI C hP hD hS 6 rfl (vi2 (vlo c2) (vhi c3) (by decide)) rfl d_Pr_endTurn_39 (fun pt_5 ept_5 H locs hP hD hS => ?_)
        have hP : va_P g.1 vwCl (wPr g qpr qpro qprf qprs qprb qprn qprt qte qteb pi po pf ps pb pn pt_5 t tb) H := hP
        have hD : va_D (inW (wPr g qpr qpro qprf qprs qprb qprn qprt qte qteb pi po pf ps pb pn pt t tb)) (wPr g qpr qpro qprf qprs qprb qprn qprt qte qteb pi po pf ps pb pn pt_5 t tb) := hD
        have hz := lett_z hz ept_5
        refine lv_aload_n hx hb d_Pr_endTurn_40 rfl (lv_at hl 1 rfl) ?_
        refine lv_iload_n hx hb d_Pr_endTurn_41 rfl (lv_at hl 2 rfl) ?_
        refine lv_iconst (v := 1) hx hb d_Pr_endTurn_42 (by decide) ?_
        refine lv_iadd hx hb d_Pr_endTurn_43 ?_
        refine pfI C hP hD hS 0 9 fkPr rfl (by decide) rfl qf_Pr_120 rfl rfl rfl (Nat.le_of_ble_eq_true rfl) (ff := fun o => fPr qte qpro qprf qprs qprb qprn qprt o) (sPr_9 _ _ _ _ _ _ _ _ _) d_Pr_endTurn_44 (fun pi_6 epi_6 H locs hP hD hS => ?_)
        have hP : va_P g.1 vwCl (wPr g qpr qpro qprf qprs qprb qprn qprt qte qteb pi_6 po pf ps pb pn pt_5 t tb) H := hP
        have hD : va_D (inW (wPr g qpr qpro qprf qprs qprb qprn qprt qte qteb pi po pf ps pb pn pt t tb)) (wPr g qpr qpro qprf qprs qprb qprn qprt qte qteb pi_6 po pf ps pb pn pt_5 t tb) := hD
        have hz := lett_z hz epi_6
        refine lv_goto (tgt := 55) hx hb d_Pr_endTurn_47 (by decide) ?_
        exact endV C hz hP hS d_Pr_endTurn_55
abbrev rm_Se_sideOf : Room := { frames := 0, cells := 0, slots := 0, locals := 0 }
noncomputable def sp_Se_sideOf (p1 : Int64) (p2 : Int64) : Int32 := if p1 < p2 then (if (-p2) < p1 then ((0 : Int32)) else ((-1 : Int32))) else ((1 : Int32))
set_option maxRecDepth 100000 in
set_option maxHeartbeats 4000000 in
theorem c_Se_sideOf (l : Launch) (g : GX)   (p1 : Int64) (p2 : Int64) : Met l y_Se_sideOf (wsY y_Se_sideOf b_Se_sideOf 4 (some .int)) rm_Se_sideOf (CP g [.long p1, .long p2] (wNil g )) (CI0 g (wNil g ) (sp_Se_sideOf p1 p2)) 0 0 (inW (wNil g )) := by
  refine Met.ofW (cc := b_Se_sideOf) (maxL := 4) (ret := (some .int)) pn_Se rfl ?_
  intro p e s m args below meth c s₁ B hml hv
  obtain ⟨rfl, C, hP, hD, hS⟩ := enter "DecadeBridge$Search" rfl B hml hv
  obtain ⟨hx, hb, hr, hml, hown, hlk, hts, hK, hZo, hZ⟩ := id C
  refine entryW (lv := [(0, .long p1), (2, .long p2)]) rfl (Nat.le_of_ble_eq_true rfl) (fun ls hl => ?_)
  obtain ⟨z, hz⟩ : ∃ z, z = sp_Se_sideOf p1 p2 := ⟨_, rfl⟩
  rw [← hz]
  unfold sp_Se_sideOf at hz
  refine lv_lload_n hx hb d_Se_sideOf_0 rfl (lv_at hl 0 rfl) ?_
  refine lv_lload_n hx hb d_Se_sideOf_1 rfl (lv_at hl 1 rfl) ?_
  refine lc_lt (tgt := 8) hx hb d_Se_sideOf_2 d_Se_sideOf_3 (by decide) (fun c1 => ?_) (fun c1 => ?_)
  · have hz := hz.trans (if_pos c1)
    refine lv_lload_n hx hb d_Se_sideOf_8 rfl (lv_at hl 0 rfl) ?_
    refine lv_lload_n hx hb d_Se_sideOf_9 rfl (lv_at hl 1 rfl) ?_
    refine lv_lneg hx hb d_Se_sideOf_10 ?_
    refine lc_gt (tgt := 19) hx hb d_Se_sideOf_11 d_Se_sideOf_12 (by decide) (fun c2 => ?_) (fun c2 => ?_)
    · have hz := hz.trans (if_pos c2)
      refine lv_iconst (v := 0) hx hb d_Se_sideOf_19 (by decide) ?_
      exact endI0 C hz hP hS d_Se_sideOf_20
    · have hz := hz.trans (if_neg c2)
      refine lv_iconst (v := -1) hx hb d_Se_sideOf_15 (by decide) ?_
      refine lv_goto (tgt := 20) hx hb d_Se_sideOf_16 (by decide) ?_
      exact endI0 C hz hP hS d_Se_sideOf_20
  · have hz := hz.trans (if_neg c1)
    refine lv_iconst (v := 1) hx hb d_Se_sideOf_6 (by decide) ?_
    exact endI0 C hz hP hS d_Se_sideOf_7
abbrev rm_Te_bytesOf : Room := { frames := 0, cells := 0, slots := 0, locals := 0 }
def HL_Te_bytesOf_5 (p : Program) (l : Launch) (e : Env) (s : State) (m : MethodId) (args : Array Value) (below : List Frame) (meth : Method) (c : Code) (g : GX)  (p1 : Int32) (sp : Int32 → Int32 → Int32) (ok : Int32 → Int32 → Prop) : Prop := ∀ (x1p5 : Int32) (x2p5 : Int32), ok x1p5 x2p5 → ∀ z : Int32, z = sp x1p5 x2p5 → ∀ (H : Heap) (locs : List Loc) (ls : Array Slot), va_P g.1 vwCl (wNil g ) H → va_D (inW (wNil g )) (wNil g ) → va_S (inW (wNil g )) s.heap H locs → lv_has ls 3 [(0, .int p1), (1, .int x1p5), (2, .int x2p5)] → W p l e rm_Te_bytesOf s m args below meth c H locs 0 0 (MQ below (CI0 g (wNil g ) z) args s 0 0 (inW (wNil g ))) (F0 m 5 ls [])
def HL_Te_bytesOf_22 (p : Program) (l : Launch) (e : Env) (s : State) (m : MethodId) (args : Array Value) (below : List Frame) (meth : Method) (c : Code) (g : GX)  (p1 : Int32) (x2p5 : Int32) (sp : Int32 → Int32) (ok : Int32 → Prop) : Prop := ∀ (x1p22 : Int32), ok x1p22 → ∀ z : Int32, z = sp x1p22 → ∀ (H : Heap) (locs : List Loc) (ls : Array Slot), va_P g.1 vwCl (wNil g ) H → va_D (inW (wNil g )) (wNil g ) → va_S (inW (wNil g )) s.heap H locs → lv_has ls 3 [(0, .int p1), (1, .int x1p22), (2, .int x2p5)] → W p l e rm_Te_bytesOf s m args below meth c H locs 0 0 (MQ below (CI0 g (wNil g ) z) args s 0 0 (inW (wNil g ))) (F0 m 22 ls [])
noncomputable def sp_Te_bytesOf_22 (x2p5 : Int32) (r5 : Int32 → Int32 → Int32) (x1p22 : Int32) : Int32 := lett (x2p5 + (-8 : Int32)) fun (v4 : Int32) => r5 x1p22 v4
def ok_Te_bytesOf_22 (x2p5 : Int32) (r5 : Int32 → Int32 → Int32) (q5 : Int32 → Int32 → Prop) (x1p22 : Int32) : Prop := lett (x2p5 + (-8 : Int32)) fun (v4 : Int32) => q5 x1p22 v4
set_option maxRecDepth 100000 in
set_option maxHeartbeats 4000000 in
theorem k_Te_bytesOf_22 {p : Program} {l : Launch} {e : Env} {s : State} {m : MethodId} {args : Array Value} {below : List Frame} {meth : Method} {c : Code} {g : GX}  {p1 : Int32} {x2p5 : Int32} {r5 : Int32 → Int32 → Int32} {q5 : Int32 → Int32 → Prop} (C : Cx p s m args meth c (inW (wNil g )) g "DecadeBridge$Text" b_Te_bytesOf (some .int) 3) (ih5 : HL_Te_bytesOf_5 p l e s m args below meth c g  p1 r5 q5) : HL_Te_bytesOf_22 p l e s m args below meth c g  p1 x2p5 (sp_Te_bytesOf_22 x2p5 r5) (ok_Te_bytesOf_22 x2p5 r5 q5) := by
  intro x1p22 hok z hz H locs ls hP hD hS hl
  obtain ⟨hx, hb, hr, hml, hown, hlk, hts, hK, hZo, hZ⟩ := id C
  unfold sp_Te_bytesOf_22 at hz
  unfold ok_Te_bytesOf_22 at hok
  obtain ⟨v4, ev4⟩ : ∃ y : Int32, y = x2p5 + (-8 : Int32) := ⟨_, rfl⟩
  have hz := lett_z hz ev4
  have hok := lett_o hok ev4
  refine lv_iinc (v := v4) (lv' := [(2, .int v4), (0, .int p1), (1, .int x1p22)]) hx hb d_Te_bytesOf_22 hl (k := 2) rfl (by rw [ev4]; rfl) (by decide) rfl (fun ls hl => ?_)
  refine lv_goto (tgt := 5) hx hb d_Te_bytesOf_25 (by decide) ?_
  exact ih5 x1p22 v4 hok _ hz _ _ ls hP hD hS (lv_sub hl [1, 2, 0] rfl)
noncomputable def bd_Te_bytesOf_5 (p1 : Int32) (r5 : Int32 → Int32 → Int32) (x1p5 : Int32) (x2p5 : Int32) : Int32 := if x2p5 < 0 then (x1p5) else (if (((p1.toUInt32 >>> (x2p5.toUInt32 &&& Int32.toUInt32 31)).toInt32) &&& (255 : Int32)) = 0 then (sp_Te_bytesOf_22 x2p5 r5 x1p5) else (lett (x1p5 + (1 : Int32)) fun (v3 : Int32) => sp_Te_bytesOf_22 x2p5 r5 v3))
def okb_Te_bytesOf_5 (p1 : Int32) (r5 : Int32 → Int32 → Int32) (q5 : Int32 → Int32 → Prop) (x1p5 : Int32) (x2p5 : Int32) : Prop := ((x2p5 < 0 → True) ∧ (¬ (x2p5 < 0) → (((((p1.toUInt32 >>> (x2p5.toUInt32 &&& Int32.toUInt32 31)).toInt32) &&& (255 : Int32)) = 0 → ok_Te_bytesOf_22 x2p5 r5 q5 x1p5) ∧ (¬ ((((p1.toUInt32 >>> (x2p5.toUInt32 &&& Int32.toUInt32 31)).toInt32) &&& (255 : Int32)) = 0) → lett (x1p5 + (1 : Int32)) fun (v3 : Int32) => ok_Te_bytesOf_22 x2p5 r5 q5 v3))))
noncomputable def sp_Te_bytesOf_5 (p1 : Int32)  : Nat → Int32 → Int32 → Int32
  | 0 => fun _ _ => default
  | f + 1 => bd_Te_bytesOf_5 p1  (sp_Te_bytesOf_5 p1  f)
def ok_Te_bytesOf_5 (p1 : Int32)   : Nat → Int32 → Int32 → Prop
  | 0 => fun _ _ => False
  | f + 1 => okb_Te_bytesOf_5 p1  (sp_Te_bytesOf_5 p1  f)  (ok_Te_bytesOf_5 p1   f)
set_option maxRecDepth 100000 in
set_option maxHeartbeats 4000000 in
theorem kb_Te_bytesOf_5 {p : Program} {l : Launch} {e : Env} {s : State} {m : MethodId} {args : Array Value} {below : List Frame} {meth : Method} {c : Code} {g : GX}  {p1 : Int32}  (C : Cx p s m args meth c (inW (wNil g )) g "DecadeBridge$Text" b_Te_bytesOf (some .int) 3) {r5 : Int32 → Int32 → Int32} {q5 : Int32 → Int32 → Prop}  (ih5 : HL_Te_bytesOf_5 p l e s m args below meth c g  p1 r5 q5) : HL_Te_bytesOf_5 p l e s m args below meth c g  p1 (bd_Te_bytesOf_5 p1  r5) (okb_Te_bytesOf_5 p1  r5  q5) := by
  intro x1p5 x2p5 hok z hz H locs ls hP hD hS hl
  obtain ⟨hx, hb, hr, hml, hown, hlk, hts, hK, hZo, hZ⟩ := id C
  unfold bd_Te_bytesOf_5 at hz
  unfold okb_Te_bytesOf_5 at hok
  refine lv_iload_n hx hb d_Te_bytesOf_5 rfl (lv_at hl 2 rfl) ?_
  refine lv_if_lt (tgt := 28) hx hb d_Te_bytesOf_6 (by decide) (fun c1 => ?_) (fun c1 => ?_)
  · have hz := hz.trans (if_pos c1)
    refine lv_iload_n hx hb d_Te_bytesOf_28 rfl (lv_at hl 1 rfl) ?_
    exact endI0 C hz hP hS d_Te_bytesOf_29
  · have hz := hz.trans (if_neg c1)
    have hok := hok.2 c1
    refine lv_iload_n hx hb d_Te_bytesOf_9 rfl (lv_at hl 0 rfl) ?_
    refine lv_iload_n hx hb d_Te_bytesOf_10 rfl (lv_at hl 2 rfl) ?_
    refine lv_iushr hx hb d_Te_bytesOf_11 rfl ?_
    refine lv_sipush (v := 255) hx hb d_Te_bytesOf_12 (by decide) ?_
    refine lv_iand hx hb d_Te_bytesOf_15 ?_
    refine lv_if_eq (tgt := 22) hx hb d_Te_bytesOf_16 (by decide) (fun c2 => ?_) (fun c2 => ?_)
    · have hz := hz.trans (if_pos c2)
      have hok := hok.1 c2
      exact k_Te_bytesOf_22 C ih5 x1p5 hok _ hz _ _ ls hP hD hS hl
    · have hz := hz.trans (if_neg c2)
      have hok := hok.2 c2
      obtain ⟨v3, ev3⟩ : ∃ y : Int32, y = x1p5 + (1 : Int32) := ⟨_, rfl⟩
      have hz := lett_z hz ev3
      have hok := lett_o hok ev3
      refine lv_iinc (v := v3) (lv' := [(1, .int v3), (0, .int p1), (2, .int x2p5)]) hx hb d_Te_bytesOf_19 hl (k := 1) rfl (by rw [ev3]; rfl) (by decide) rfl (fun ls hl => ?_)
      exact k_Te_bytesOf_22 C ih5 v3 hok _ hz _ _ ls hP hD hS (lv_sub hl [1, 0, 2] rfl)
theorem k_Te_bytesOf_5 {p : Program} {l : Launch} {e : Env} {s : State} {m : MethodId} {args : Array Value} {below : List Frame} {meth : Method} {c : Code} {g : GX}  {p1 : Int32}  (C : Cx p s m args meth c (inW (wNil g )) g "DecadeBridge$Text" b_Te_bytesOf (some .int) 3) (f : Nat)  : HL_Te_bytesOf_5 p l e s m args below meth c g  p1 (sp_Te_bytesOf_5 p1  f) (ok_Te_bytesOf_5 p1   f) := by
  induction f with
  | zero => intro x1p5 x2p5 hok; exact False.elim hok
  | succ f ih => exact kb_Te_bytesOf_5 C  ih
noncomputable def sp_Te_bytesOf (p1 : Int32) : Int32 := sp_Te_bytesOf_5 p1 big (0 : Int32) (24 : Int32)
def ok_Te_bytesOf (p1 : Int32) : Prop := ok_Te_bytesOf_5 p1 big (0 : Int32) (24 : Int32)
set_option maxRecDepth 100000 in
set_option maxHeartbeats 4000000 in
theorem c_Te_bytesOf (l : Launch) (g : GX)   (p1 : Int32) (hok : ok_Te_bytesOf p1) : Met l y_Te_bytesOf (wsY y_Te_bytesOf b_Te_bytesOf 3 (some .int)) rm_Te_bytesOf (CP g [.int p1] (wNil g )) (CI0 g (wNil g ) (sp_Te_bytesOf p1)) 0 0 (inW (wNil g )) := by
  refine Met.ofW (cc := b_Te_bytesOf) (maxL := 3) (ret := (some .int)) pn_Te rfl ?_
  intro p e s m args below meth c s₁ B hml hv
  obtain ⟨rfl, C, hP, hD, hS⟩ := enter "DecadeBridge$Text" rfl B hml hv
  obtain ⟨hx, hb, hr, hml, hown, hlk, hts, hK, hZo, hZ⟩ := id C
  refine entryW (lv := [(0, .int p1)]) rfl (Nat.le_of_ble_eq_true rfl) (fun ls hl => ?_)
  obtain ⟨z, hz⟩ : ∃ z, z = sp_Te_bytesOf p1 := ⟨_, rfl⟩
  rw [← hz]
  unfold sp_Te_bytesOf at hz
  unfold ok_Te_bytesOf at hok
  refine lv_iconst (v := 0) hx hb d_Te_bytesOf_0 (by decide) ?_
  refine lv_istore_n (lv' := [(1, .int (0 : Int32)), (0, .int p1)]) hx hb d_Te_bytesOf_1 rfl hl (by decide) rfl (fun ls hl => ?_)
  refine lv_bipush (v := 24) hx hb d_Te_bytesOf_2 (by decide) ?_
  refine lv_istore_n (lv' := [(2, .int (24 : Int32)), (1, .int (0 : Int32)), (0, .int p1)]) hx hb d_Te_bytesOf_4 rfl hl (by decide) rfl (fun ls hl => ?_)
  exact k_Te_bytesOf_5 C big (0 : Int32) (24 : Int32) hok _ hz _ _ ls hP hD hS (lv_sub hl [2, 1, 0] rfl)
abbrev rm_Te_append : Room := { frames := 0, cells := 0, slots := 0, locals := 0 }
def HL_Te_append_3 (p : Program) (l : Launch) (e : Env) (s : State) (m : MethodId) (args : Array Value) (below : List Frame) (meth : Method) (c : Code) (g : GX) (qte : Nat) (qteb : Nat) (ws0 : va_W) (p1 : Int32) (sp : Int32 → IV → IV → (IV × IV)) (ok : Int32 → IV → IV → Prop) : Prop := ∀ (x2p3 : Int32) (tp3 : IV) (tbp3 : IV), ok x2p3 tp3 tbp3 → ∀ z : (IV × IV), z = sp x2p3 tp3 tbp3 → ∀ (H : Heap) (locs : List Loc) (ls : Array Slot), va_P g.1 vwCl (wTe g qte qteb tp3 tbp3) H → va_D (inW ws0) (wTe g qte qteb tp3 tbp3) → va_S (inW ws0) s.heap H locs → lv_has ls 4 [(0, .ref qte), (1, .int p1), (2, .int x2p3)] → W p l e rm_Te_append s m args below meth c H locs 0 0 (MQ below (CV g ws0 (fun u : IV × IV => wTe g qte qteb u.1 u.2) z) args s 0 0 (inW ws0)) (F0 m 3 ls [])
def HL_Te_append_52 (p : Program) (l : Launch) (e : Env) (s : State) (m : MethodId) (args : Array Value) (below : List Frame) (meth : Method) (c : Code) (g : GX) (qte : Nat) (qteb : Nat) (ws0 : va_W) (p1 : Int32) (x2p3 : Int32) (sp : IV → IV → (IV × IV)) (ok : IV → IV → Prop) : Prop := ∀ (tp52 : IV) (tbp52 : IV), ok tp52 tbp52 → ∀ z : (IV × IV), z = sp tp52 tbp52 → ∀ (H : Heap) (locs : List Loc) (ls : Array Slot), va_P g.1 vwCl (wTe g qte qteb tp52 tbp52) H → va_D (inW ws0) (wTe g qte qteb tp52 tbp52) → va_S (inW ws0) s.heap H locs → lv_has ls 4 [(0, .ref qte), (1, .int p1), (2, .int x2p3)] → W p l e rm_Te_append s m args below meth c H locs 0 0 (MQ below (CV g ws0 (fun u : IV × IV => wTe g qte qteb u.1 u.2) z) args s 0 0 (inW ws0)) (F0 m 52 ls [])
noncomputable def sp_Te_append_52 (x2p3 : Int32) (r3 : Int32 → IV → IV → (IV × IV)) (tp52 : IV) (tbp52 : IV) : IV × IV := lett (x2p3 + (-8 : Int32)) fun (v8 : Int32) => r3 v8 tp52 tbp52
def ok_Te_append_52 (x2p3 : Int32) (r3 : Int32 → IV → IV → (IV × IV)) (q3 : Int32 → IV → IV → Prop) (tp52 : IV) (tbp52 : IV) : Prop := lett (x2p3 + (-8 : Int32)) fun (v8 : Int32) => q3 v8 tp52 tbp52
set_option maxRecDepth 100000 in
set_option maxHeartbeats 4000000 in
theorem k_Te_append_52 {p : Program} {l : Launch} {e : Env} {s : State} {m : MethodId} {args : Array Value} {below : List Frame} {meth : Method} {c : Code} {g : GX} {qte : Nat} {qteb : Nat} {ws0 : va_W} {p1 : Int32} {x2p3 : Int32} {r3 : Int32 → IV → IV → (IV × IV)} {q3 : Int32 → IV → IV → Prop} (C : Cx p s m args meth c (inW ws0) g "DecadeBridge$Text" b_Te_append none 4) (ih3 : HL_Te_append_3 p l e s m args below meth c g qte qteb ws0 p1 r3 q3) : HL_Te_append_52 p l e s m args below meth c g qte qteb ws0 p1 x2p3 (sp_Te_append_52 x2p3 r3) (ok_Te_append_52 x2p3 r3 q3) := by
  intro tp52 tbp52 hok z hz H locs ls hP hD hS hl
  obtain ⟨hx, hb, hr, hml, hown, hlk, hts, hK, hZo, hZ⟩ := id C
  unfold sp_Te_append_52 at hz
  unfold ok_Te_append_52 at hok
  obtain ⟨v8, ev8⟩ : ∃ y : Int32, y = x2p3 + (-8 : Int32) := ⟨_, rfl⟩
  have hz := lett_z hz ev8
  have hok := lett_o hok ev8
  refine lv_iinc (v := v8) (lv' := [(2, .int v8), (0, .ref qte), (1, .int p1)]) hx hb d_Te_append_52 hl (k := 2) rfl (by rw [ev8]; rfl) (by decide) rfl (fun ls hl => ?_)
  refine lv_goto (tgt := 3) hx hb d_Te_append_55 (by decide) ?_
  exact ih3 v8 tp52 tbp52 hok _ hz _ _ ls hP hD hS (lv_sub hl [1, 2, 0] rfl)
noncomputable def bd_Te_append_3 (p1 : Int32) (r3 : Int32 → IV → IV → (IV × IV)) (x2p3 : Int32) (tp3 : IV) (tbp3 : IV) : IV × IV := if x2p3 < 0 then ((tp3, tbp3)) else (lett (((p1.toUInt32 >>> (x2p3.toUInt32 &&& Int32.toUInt32 31)).toInt32) &&& (255 : Int32)) fun (v2 : Int32) => if v2 = 0 then (sp_Te_append_52 x2p3 r3 tp3 tbp3) else (if (600 : Int32) ≤ (tp3 1) then (sp_Te_append_52 x2p3 r3 tp3 tbp3) else (lett (upd tbp3 (tp3 1).toNatClampNeg (vp_nar .byte v2.toInt8.toInt32)) fun (tb_6 : IV) => lett (upd tp3 1 ((tp3 1) + (1 : Int32))) fun (t_7 : IV) => sp_Te_append_52 x2p3 r3 t_7 tb_6)))
def okb_Te_append_3 (p1 : Int32) (r3 : Int32 → IV → IV → (IV × IV)) (q3 : Int32 → IV → IV → Prop) (x2p3 : Int32) (tp3 : IV) (tbp3 : IV) : Prop := ((x2p3 < 0 → True) ∧ (¬ (x2p3 < 0) → lett (((p1.toUInt32 >>> (x2p3.toUInt32 &&& Int32.toUInt32 31)).toInt32) &&& (255 : Int32)) fun (v2 : Int32) => ((v2 = 0 → ok_Te_append_52 x2p3 r3 q3 tp3 tbp3) ∧ (¬ (v2 = 0) → (((600 : Int32) ≤ (tp3 1) → ok_Te_append_52 x2p3 r3 q3 tp3 tbp3) ∧ (¬ ((600 : Int32) ≤ (tp3 1)) → (vp_in (tp3 1) 600) ∧ lett (upd tbp3 (tp3 1).toNatClampNeg (vp_nar .byte v2.toInt8.toInt32)) fun (tb_6 : IV) => lett (upd tp3 1 ((tp3 1) + (1 : Int32))) fun (t_7 : IV) => ok_Te_append_52 x2p3 r3 q3 t_7 tb_6))))))
noncomputable def sp_Te_append_3 (p1 : Int32)  : Nat → Int32 → IV → IV → (IV × IV)
  | 0 => fun _ _ _ => default
  | f + 1 => bd_Te_append_3 p1  (sp_Te_append_3 p1  f)
def ok_Te_append_3 (p1 : Int32)   : Nat → Int32 → IV → IV → Prop
  | 0 => fun _ _ _ => False
  | f + 1 => okb_Te_append_3 p1  (sp_Te_append_3 p1  f)  (ok_Te_append_3 p1   f)
set_option maxRecDepth 100000 in
set_option maxHeartbeats 4000000 in
theorem kb_Te_append_3 {p : Program} {l : Launch} {e : Env} {s : State} {m : MethodId} {args : Array Value} {below : List Frame} {meth : Method} {c : Code} {g : GX} {qte : Nat} {qteb : Nat} {ws0 : va_W} {p1 : Int32}  (C : Cx p s m args meth c (inW ws0) g "DecadeBridge$Text" b_Te_append none 4) {r3 : Int32 → IV → IV → (IV × IV)} {q3 : Int32 → IV → IV → Prop}  (ih3 : HL_Te_append_3 p l e s m args below meth c g qte qteb ws0 p1 r3 q3) : HL_Te_append_3 p l e s m args below meth c g qte qteb ws0 p1 (bd_Te_append_3 p1  r3) (okb_Te_append_3 p1  r3  q3) := by
  intro x2p3 tp3 tbp3 hok z hz H locs ls hP hD hS hl
  obtain ⟨hx, hb, hr, hml, hown, hlk, hts, hK, hZo, hZ⟩ := id C
  unfold bd_Te_append_3 at hz
  unfold okb_Te_append_3 at hok
  refine lv_iload_n hx hb d_Te_append_3 rfl (lv_at hl 2 rfl) ?_
  refine lv_if_lt (tgt := 58) hx hb d_Te_append_4 (by decide) (fun c1 => ?_) (fun c1 => ?_)
  · have hz := hz.trans (if_pos c1)
    exact endV C hz hP hS d_Te_append_58
  · have hz := hz.trans (if_neg c1)
    have hok := hok.2 c1
    refine lv_iload_n hx hb d_Te_append_7 rfl (lv_at hl 1 rfl) ?_
    refine lv_iload_n hx hb d_Te_append_8 rfl (lv_at hl 2 rfl) ?_
    refine lv_iushr hx hb d_Te_append_9 rfl ?_
    refine lv_sipush (v := 255) hx hb d_Te_append_10 (by decide) ?_
    refine lv_iand hx hb d_Te_append_13 ?_
    refine lv_topi (fun v2 ev2 => ?_)
    have hz := lett_z hz ev2
    have hok := lett_o hok ev2
    refine lv_istore_n (lv' := [(3, .int v2), (0, .ref qte), (1, .int p1), (2, .int x2p3)]) hx hb d_Te_append_14 rfl hl (by decide) rfl (fun ls hl => ?_)
    refine lv_iload_n hx hb d_Te_append_15 rfl (lv_at hl 0 rfl) ?_
    refine lv_if_eq (tgt := 52) hx hb d_Te_append_16 (by decide) (fun c3 => ?_) (fun c3 => ?_)
    · have hz := hz.trans (if_pos c3)
      have hok := hok.1 c3
      exact k_Te_append_52 C ih3 tp3 tbp3 hok _ hz _ _ ls hP hD hS (lv_sub hl [1, 2, 3] rfl)
    · have hz := hz.trans (if_neg c3)
      have hok := hok.2 c3
      refine lv_aload_n hx hb d_Te_append_19 rfl (lv_at hl 1 rfl) ?_
      refine gf C hP 0 1 fkTe rfl (by decide) rfl qf_Te_19 (gTe_1 _ _) d_Te_append_20 ?_
      refine lv_aload_n hx hb d_Te_append_23 rfl (lv_at hl 1 rfl) ?_
      refine gf C hP 0 0 fkTe rfl (by decide) rfl qf_Te_11 (gTe_0 _ _) d_Te_append_24 ?_
      refine alen C hP 1 rfl (t0 := 2) rfl (v := 600) (by decide) d_Te_append_27 ?_
      refine lv_icmp_ge (tgt := 52) hx hb d_Te_append_28 (by decide) (fun c4 => ?_) (fun c4 => ?_)
      · have hz := hz.trans (if_pos c4)
        have hok := hok.1 c4
        exact k_Te_append_52 C ih3 tp3 tbp3 hok _ hz _ _ ls hP hD hS (lv_sub hl [1, 2, 3] rfl)
      · have hz := hz.trans (if_neg c4)
        have hok := hok.2 c4
        refine lv_aload_n hx hb d_Te_append_31 rfl (lv_at hl 1 rfl) ?_
        refine gf C hP 0 0 fkTe rfl (by decide) rfl qf_Te_11 (gTe_0 _ _) d_Te_append_32 ?_
        refine lv_aload_n hx hb d_Te_append_35 rfl (lv_at hl 1 rfl) ?_
        refine gf C hP 0 1 fkTe rfl (by decide) rfl qf_Te_19 (gTe_1 _ _) d_Te_append_36 ?_
        refine lv_iload_n hx hb d_Te_append_39 rfl (lv_at hl 0 rfl) ?_
        refine lv_i2b hx hb d_Te_append_40 rfl ?_
        have hs5 := hok.1
        have hok := hok.2
        refine stB C hP hD hS 1 rfl hs5 rfl d_Te_append_41 (fun tb_6 etb_6 H locs hP hD hS => ?_)
        have hP : va_P g.1 vwCl (wTe g qte qteb tp3 tb_6) H := hP
        have hD : va_D (inW ws0) (wTe g qte qteb tp3 tb_6) := hD
        have hz := lett_z hz etb_6
        have hok := lett_o hok etb_6
        refine lv_aload_n hx hb d_Te_append_42 rfl (lv_at hl 1 rfl) ?_
        refine lv_dup hx hb d_Te_append_43 rfl ?_
        refine gf C hP 0 1 fkTe rfl (by decide) rfl qf_Te_19 (gTe_1 _ _) d_Te_append_44 ?_
        refine lv_iconst (v := 1) hx hb d_Te_append_47 (by decide) ?_
        refine lv_iadd hx hb d_Te_append_48 ?_
        refine pfI C hP hD hS 0 1 fkTe rfl (by decide) rfl qf_Te_19 rfl rfl rfl (Nat.le_of_ble_eq_true rfl) (ff := fun o => fTe qteb o) (sTe_1 _ _ _) d_Te_append_49 (fun t_7 et_7 H locs hP hD hS => ?_)
        have hP : va_P g.1 vwCl (wTe g qte qteb t_7 tb_6) H := hP
        have hD : va_D (inW ws0) (wTe g qte qteb t_7 tb_6) := hD
        have hz := lett_z hz et_7
        have hok := lett_o hok et_7
        exact k_Te_append_52 C ih3 t_7 tb_6 hok _ hz _ _ ls hP hD hS (lv_sub hl [1, 2, 3] rfl)
theorem k_Te_append_3 {p : Program} {l : Launch} {e : Env} {s : State} {m : MethodId} {args : Array Value} {below : List Frame} {meth : Method} {c : Code} {g : GX} {qte : Nat} {qteb : Nat} {ws0 : va_W} {p1 : Int32}  (C : Cx p s m args meth c (inW ws0) g "DecadeBridge$Text" b_Te_append none 4) (f : Nat)  : HL_Te_append_3 p l e s m args below meth c g qte qteb ws0 p1 (sp_Te_append_3 p1  f) (ok_Te_append_3 p1   f) := by
  induction f with
  | zero => intro x2p3 tp3 tbp3 hok; exact False.elim hok
  | succ f ih => exact kb_Te_append_3 C  ih
noncomputable def sp_Te_append (p1 : Int32) (t : IV) (tb : IV) : IV × IV := sp_Te_append_3 p1 big (24 : Int32) t tb
def ok_Te_append (p1 : Int32) (t : IV) (tb : IV) : Prop := ok_Te_append_3 p1 big (24 : Int32) t tb
set_option maxRecDepth 100000 in
set_option maxHeartbeats 4000000 in
theorem c_Te_append (l : Launch) (g : GX) (qte : Nat) (qteb : Nat) (t : IV) (tb : IV) (p1 : Int32) (hok : ok_Te_append p1 t tb) : Met l y_Te_append (wsY y_Te_append b_Te_append 4 none) rm_Te_append (CP g [.ref qte, .int p1] (wTe g qte qteb t tb)) (CV g (wTe g qte qteb t tb) (fun u : IV × IV => wTe g qte qteb u.1 u.2) (sp_Te_append p1 t tb)) 0 0 (inW (wTe g qte qteb t tb)) := by
  refine Met.ofW (cc := b_Te_append) (maxL := 4) (ret := none) pn_Te rfl ?_
  intro p e s m args below meth c s₁ B hml hv
  obtain ⟨rfl, C, hP, hD, hS⟩ := enter "DecadeBridge$Text" rfl B hml hv
  obtain ⟨hx, hb, hr, hml, hown, hlk, hts, hK, hZo, hZ⟩ := id C
  refine entryW (lv := [(0, .ref qte), (1, .int p1)]) rfl (Nat.le_of_ble_eq_true rfl) (fun ls hl => ?_)
  obtain ⟨z, hz⟩ : ∃ z, z = sp_Te_append p1 t tb := ⟨_, rfl⟩
  rw [← hz]
  unfold sp_Te_append at hz
  unfold ok_Te_append at hok
  refine lv_bipush (v := 24) hx hb d_Te_append_0 (by decide) ?_
  refine lv_istore_n (lv' := [(2, .int (24 : Int32)), (0, .ref qte), (1, .int p1)]) hx hb d_Te_append_2 rfl hl (by decide) rfl (fun ls hl => ?_)
  exact k_Te_append_3 C big (24 : Int32) t tb hok _ hz _ _ ls hP hD hS (lv_sub hl [1, 2, 0] rfl)
abbrev rm_Te_empty : Room := { frames := 0, cells := 0, slots := 0, locals := 0 }
noncomputable def sp_Te_empty (t : IV) : IV := lett (upd t 1 (0 : Int32)) fun (t_1 : IV) => t_1
set_option maxRecDepth 100000 in
set_option maxHeartbeats 4000000 in
theorem c_Te_empty (l : Launch) (g : GX) (qte : Nat) (qteb : Nat) (t : IV) (tb : IV)  : Met l y_Te_empty (wsY y_Te_empty b_Te_empty 1 none) rm_Te_empty (CP g [.ref qte] (wTe g qte qteb t tb)) (CV g (wTe g qte qteb t tb) (fun u : IV => wTe g qte qteb u tb) (sp_Te_empty t)) 0 0 (inW (wTe g qte qteb t tb)) := by
  refine Met.ofW (cc := b_Te_empty) (maxL := 1) (ret := none) pn_Te rfl ?_
  intro p e s m args below meth c s₁ B hml hv
  obtain ⟨rfl, C, hP, hD, hS⟩ := enter "DecadeBridge$Text" rfl B hml hv
  obtain ⟨hx, hb, hr, hml, hown, hlk, hts, hK, hZo, hZ⟩ := id C
  refine entryW (lv := [(0, .ref qte)]) rfl (Nat.le_of_ble_eq_true rfl) (fun ls hl => ?_)
  obtain ⟨z, hz⟩ : ∃ z, z = sp_Te_empty t := ⟨_, rfl⟩
  rw [← hz]
  unfold sp_Te_empty at hz
  refine lv_aload_n hx hb d_Te_empty_0 rfl (lv_at hl 0 rfl) ?_
  refine lv_iconst (v := 0) hx hb d_Te_empty_1 (by decide) ?_
  refine pfI C hP hD hS 0 1 fkTe rfl (by decide) rfl qf_Te_19 rfl rfl rfl (Nat.le_of_ble_eq_true rfl) (ff := fun o => fTe qteb o) (sTe_1 _ _ _) d_Te_empty_2 (fun t_1 et_1 H locs hP hD hS => ?_)
  have hP : va_P g.1 vwCl (wTe g qte qteb t_1 tb) H := hP
  have hD : va_D (inW (wTe g qte qteb t tb)) (wTe g qte qteb t_1 tb) := hD
  have hz := lett_z hz et_1
  exact endV C hz hP hS d_Te_empty_5
abbrev rm_Te_failAt : Room := { frames := 0, cells := 0, slots := 0, locals := 0 }
noncomputable def sp_Te_failAt (p1 : Int32) (p2 : Int32) (t : IV) : IV := if (t 5) = 0 then (lett (upd t 5 p1) fun (t_2 : IV) => lett (upd t_2 6 p2) fun (t_3 : IV) => lett (upd t_3 2 (1 : Int32)) fun (t_4 : IV) => t_4) else (t)
set_option maxRecDepth 100000 in
set_option maxHeartbeats 4000000 in
theorem c_Te_failAt (l : Launch) (g : GX) (qte : Nat) (qteb : Nat) (t : IV) (tb : IV) (p1 : Int32) (p2 : Int32) : Met l y_Te_failAt (wsY y_Te_failAt b_Te_failAt 3 none) rm_Te_failAt (CP g [.ref qte, .int p1, .int p2] (wTe g qte qteb t tb)) (CV g (wTe g qte qteb t tb) (fun u : IV => wTe g qte qteb u tb) (sp_Te_failAt p1 p2 t)) 0 0 (inW (wTe g qte qteb t tb)) := by
  refine Met.ofW (cc := b_Te_failAt) (maxL := 3) (ret := none) pn_Te rfl ?_
  intro p e s m args below meth c s₁ B hml hv
  obtain ⟨rfl, C, hP, hD, hS⟩ := enter "DecadeBridge$Text" rfl B hml hv
  obtain ⟨hx, hb, hr, hml, hown, hlk, hts, hK, hZo, hZ⟩ := id C
  refine entryW (lv := [(0, .ref qte), (1, .int p1), (2, .int p2)]) rfl (Nat.le_of_ble_eq_true rfl) (fun ls hl => ?_)
  obtain ⟨z, hz⟩ : ∃ z, z = sp_Te_failAt p1 p2 t := ⟨_, rfl⟩
  rw [← hz]
  unfold sp_Te_failAt at hz
  refine lv_aload_n hx hb d_Te_failAt_0 rfl (lv_at hl 0 rfl) ?_
  refine gf C hP 0 5 fkTe rfl (by decide) rfl qf_Te_22 (gTe_5 _ _) d_Te_failAt_1 ?_
  refine lv_if_ne (tgt := 22) hx hb d_Te_failAt_4 (by decide) (fun c1 => ?_) (fun c1 => ?_)
  · have hz := hz.trans (if_neg c1)
    exact endV C hz hP hS d_Te_failAt_22
  · have hz := hz.trans (if_pos c1)
    refine lv_aload_n hx hb d_Te_failAt_7 rfl (lv_at hl 0 rfl) ?_
    refine lv_iload_n hx hb d_Te_failAt_8 rfl (lv_at hl 1 rfl) ?_
    refine pfI C hP hD hS 0 5 fkTe rfl (by decide) rfl qf_Te_22 rfl rfl rfl (Nat.le_of_ble_eq_true rfl) (ff := fun o => fTe qteb o) (sTe_5 _ _ _) d_Te_failAt_9 (fun t_2 et_2 H locs hP hD hS => ?_)
    have hP : va_P g.1 vwCl (wTe g qte qteb t_2 tb) H := hP
    have hD : va_D (inW (wTe g qte qteb t tb)) (wTe g qte qteb t_2 tb) := hD
    have hz := lett_z hz et_2
    refine lv_aload_n hx hb d_Te_failAt_12 rfl (lv_at hl 0 rfl) ?_
    refine lv_iload_n hx hb d_Te_failAt_13 rfl (lv_at hl 2 rfl) ?_
    refine pfI C hP hD hS 0 6 fkTe rfl (by decide) rfl qf_Te_15 rfl rfl rfl (Nat.le_of_ble_eq_true rfl) (ff := fun o => fTe qteb o) (sTe_6 _ _ _) d_Te_failAt_14 (fun t_3 et_3 H locs hP hD hS => ?_)
    have hP : va_P g.1 vwCl (wTe g qte qteb t_3 tb) H := hP
    have hD : va_D (inW (wTe g qte qteb t tb)) (wTe g qte qteb t_3 tb) := hD
    have hz := lett_z hz et_3
    refine lv_aload_n hx hb d_Te_failAt_17 rfl (lv_at hl 0 rfl) ?_
    refine lv_iconst (v := 1) hx hb d_Te_failAt_18 (by decide) ?_
    refine pfI C hP hD hS 0 2 fkTe rfl (by decide) rfl qf_Te_38 rfl rfl rfl (Nat.le_of_ble_eq_true rfl) (ff := fun o => fTe qteb o) (sTe_2 _ _ _) d_Te_failAt_19 (fun t_4 et_4 H locs hP hD hS => ?_)
    have hP : va_P g.1 vwCl (wTe g qte qteb t_4 tb) H := hP
    have hD : va_D (inW (wTe g qte qteb t tb)) (wTe g qte qteb t_4 tb) := hD
    have hz := lett_z hz et_4
    exact endV C hz hP hS d_Te_failAt_22
abbrev rm_Te_atSigned : Room := { frames := 0, cells := 0, slots := 0, locals := 0 }
def HL_Te_atSigned_18 (p : Program) (l : Launch) (e : Env) (s : State) (m : MethodId) (args : Array Value) (below : List Frame) (meth : Method) (c : Code) (g : GX) (qte : Nat) (qteb : Nat) (t : IV) (tb : IV) (sp : Int32) (ok : Prop) : Prop := ∀ (_ : Unit), ok → ∀ z : Int32, z = sp → ∀ (H : Heap) (locs : List Loc) (ls : Array Slot), va_P g.1 vwCl (wTe g qte qteb t tb) H → va_D (inW (wTe g qte qteb t tb)) (wTe g qte qteb t tb) → va_S (inW (wTe g qte qteb t tb)) s.heap H locs → lv_has ls 1 [] → W p l e rm_Te_atSigned s m args below meth c H locs 0 0 (MQ below (CI0 g (wTe g qte qteb t tb) z) args s 0 0 (inW (wTe g qte qteb t tb))) (F0 m 18 ls [])
noncomputable def sp_Te_atSigned_18    : Int32 := (1 : Int32)
def ok_Te_atSigned_18     : Prop := True
set_option maxRecDepth 100000 in
set_option maxHeartbeats 4000000 in
theorem k_Te_atSigned_18 {p : Program} {l : Launch} {e : Env} {s : State} {m : MethodId} {args : Array Value} {below : List Frame} {meth : Method} {c : Code} {g : GX} {qte : Nat} {qteb : Nat} {t : IV} {tb : IV}  (C : Cx p s m args meth c (inW (wTe g qte qteb t tb)) g "DecadeBridge$Text" b_Te_atSigned (some .boolean) 1)  : HL_Te_atSigned_18 p l e s m args below meth c g qte qteb t tb (sp_Te_atSigned_18  ) (ok_Te_atSigned_18   ) := by
  intro _ hok z hz H locs ls hP hD hS hl
  obtain ⟨hx, hb, hr, hml, hown, hlk, hts, hK, hZo, hZ⟩ := id C
  unfold sp_Te_atSigned_18 at hz
  refine lv_iconst (v := 1) hx hb d_Te_atSigned_18 (by decide) ?_
  refine lv_goto (tgt := 23) hx hb d_Te_atSigned_19 (by decide) ?_
  exact endZ0 C hz hP hS rfl d_Te_atSigned_23
noncomputable def sp_Te_atSigned (t : IV) : Int32 := if (t 2) = (48 : Int32) then (sp_Te_atSigned_18) else (if (t 2) = (45 : Int32) then (sp_Te_atSigned_18) else ((0 : Int32)))
set_option maxRecDepth 100000 in
set_option maxHeartbeats 4000000 in
theorem c_Te_atSigned (l : Launch) (g : GX) (qte : Nat) (qteb : Nat) (t : IV) (tb : IV)  : Met l y_Te_atSigned (wsY y_Te_atSigned b_Te_atSigned 1 (some .boolean)) rm_Te_atSigned (CP g [.ref qte] (wTe g qte qteb t tb)) (CI0 g (wTe g qte qteb t tb) (sp_Te_atSigned t)) 0 0 (inW (wTe g qte qteb t tb)) := by
  refine Met.ofW (cc := b_Te_atSigned) (maxL := 1) (ret := (some .boolean)) pn_Te rfl ?_
  intro p e s m args below meth c s₁ B hml hv
  obtain ⟨rfl, C, hP, hD, hS⟩ := enter "DecadeBridge$Text" rfl B hml hv
  obtain ⟨hx, hb, hr, hml, hown, hlk, hts, hK, hZo, hZ⟩ := id C
  refine entryW (lv := [(0, .ref qte)]) rfl (Nat.le_of_ble_eq_true rfl) (fun ls hl => ?_)
  obtain ⟨z, hz⟩ : ∃ z, z = sp_Te_atSigned t := ⟨_, rfl⟩
  rw [← hz]
  unfold sp_Te_atSigned at hz
  refine lv_aload_n hx hb d_Te_atSigned_0 rfl (lv_at hl 0 rfl) ?_
  refine gf C hP 0 2 fkTe rfl (by decide) rfl qf_Te_38 (gTe_2 _ _) d_Te_atSigned_1 ?_
  refine lv_bipush (v := 48) hx hb d_Te_atSigned_4 (by decide) ?_
  refine lv_icmp_eq (tgt := 18) hx hb d_Te_atSigned_6 (by decide) (fun c1 => ?_) (fun c1 => ?_)
  · have hz := hz.trans (if_pos c1)
    exact k_Te_atSigned_18 C () trivial _ hz _ _ ls hP hD hS (lv_sub hl [] rfl)
  · have hz := hz.trans (if_neg c1)
    refine lv_aload_n hx hb d_Te_atSigned_9 rfl (lv_at hl 0 rfl) ?_
    refine gf C hP 0 2 fkTe rfl (by decide) rfl qf_Te_38 (gTe_2 _ _) d_Te_atSigned_10 ?_
    refine lv_bipush (v := 45) hx hb d_Te_atSigned_13 (by decide) ?_
    refine lv_icmp_ne (tgt := 22) hx hb d_Te_atSigned_15 (by decide) (fun c2 => ?_) (fun c2 => ?_)
    · have hz := hz.trans (if_neg c2)
      refine lv_iconst (v := 0) hx hb d_Te_atSigned_22 (by decide) ?_
      exact endZ0 C hz hP hS rfl d_Te_atSigned_23
    · have hz := hz.trans (if_pos c2)
      exact k_Te_atSigned_18 C () trivial _ hz _ _ ls hP hD hS (lv_sub hl [] rfl)
abbrev rm_Te_byteAt : Room := { frames := 0, cells := 0, slots := 0, locals := 0 }
def HL_Te_byteAt_22 (p : Program) (l : Launch) (e : Env) (s : State) (m : MethodId) (args : Array Value) (below : List Frame) (meth : Method) (c : Code) (g : GX) (qte : Nat) (qteb : Nat) (t : IV) (tb : IV) (sp : Int32) (ok : Prop) : Prop := ∀ (_ : Unit), ok → ∀ z : Int32, z = sp → ∀ (H : Heap) (locs : List Loc) (ls : Array Slot), va_P g.1 vwCl (wTe g qte qteb t tb) H → va_D (inW (wTe g qte qteb t tb)) (wTe g qte qteb t tb) → va_S (inW (wTe g qte qteb t tb)) s.heap H locs → lv_has ls 2 [] → W p l e rm_Te_byteAt s m args below meth c H locs 0 0 (MQ below (CI0 g (wTe g qte qteb t tb) z) args s 0 0 (inW (wTe g qte qteb t tb))) (F0 m 22 ls [])
noncomputable def sp_Te_byteAt_22    : Int32 := (0 : Int32)
def ok_Te_byteAt_22     : Prop := True
set_option maxRecDepth 100000 in
set_option maxHeartbeats 4000000 in
theorem k_Te_byteAt_22 {p : Program} {l : Launch} {e : Env} {s : State} {m : MethodId} {args : Array Value} {below : List Frame} {meth : Method} {c : Code} {g : GX} {qte : Nat} {qteb : Nat} {t : IV} {tb : IV}  (C : Cx p s m args meth c (inW (wTe g qte qteb t tb)) g "DecadeBridge$Text" b_Te_byteAt (some .int) 2)  : HL_Te_byteAt_22 p l e s m args below meth c g qte qteb t tb (sp_Te_byteAt_22  ) (ok_Te_byteAt_22   ) := by
  intro _ hok z hz H locs ls hP hD hS hl
  obtain ⟨hx, hb, hr, hml, hown, hlk, hts, hK, hZo, hZ⟩ := id C
  unfold sp_Te_byteAt_22 at hz
  refine lv_iconst (v := 0) hx hb d_Te_byteAt_22 (by decide) ?_
  exact endI0 C hz hP hS d_Te_byteAt_23
noncomputable def sp_Te_byteAt (p1 : Int32) (tb : IV) : Int32 := if p1 < 0 then (sp_Te_byteAt_22) else (if (600 : Int32) ≤ p1 then (sp_Te_byteAt_22) else (tb p1.toNatClampNeg))
set_option maxRecDepth 100000 in
set_option maxHeartbeats 4000000 in
theorem c_Te_byteAt (l : Launch) (g : GX) (qte : Nat) (qteb : Nat) (t : IV) (tb : IV) (p1 : Int32) : Met l y_Te_byteAt (wsY y_Te_byteAt b_Te_byteAt 2 (some .int)) rm_Te_byteAt (CP g [.ref qte, .int p1] (wTe g qte qteb t tb)) (CI0 g (wTe g qte qteb t tb) (sp_Te_byteAt p1 tb)) 0 0 (inW (wTe g qte qteb t tb)) := by
  refine Met.ofW (cc := b_Te_byteAt) (maxL := 2) (ret := (some .int)) pn_Te rfl ?_
  intro p e s m args below meth c s₁ B hml hv
  obtain ⟨rfl, C, hP, hD, hS⟩ := enter "DecadeBridge$Text" rfl B hml hv
  obtain ⟨hx, hb, hr, hml, hown, hlk, hts, hK, hZo, hZ⟩ := id C
  refine entryW (lv := [(0, .ref qte), (1, .int p1)]) rfl (Nat.le_of_ble_eq_true rfl) (fun ls hl => ?_)
  obtain ⟨z, hz⟩ : ∃ z, z = sp_Te_byteAt p1 tb := ⟨_, rfl⟩
  rw [← hz]
  unfold sp_Te_byteAt at hz
  refine lv_iload_n hx hb d_Te_byteAt_0 rfl (lv_at hl 1 rfl) ?_
  refine lv_if_lt (tgt := 22) hx hb d_Te_byteAt_1 (by decide) (fun c1 => ?_) (fun c1 => ?_)
  · have hz := hz.trans (if_pos c1)
    exact k_Te_byteAt_22 C () trivial _ hz _ _ ls hP hD hS (lv_sub hl [] rfl)
  · have hz := hz.trans (if_neg c1)
    refine lv_iload_n hx hb d_Te_byteAt_4 rfl (lv_at hl 1 rfl) ?_
    refine lv_aload_n hx hb d_Te_byteAt_5 rfl (lv_at hl 0 rfl) ?_
    refine gf C hP 0 0 fkTe rfl (by decide) rfl qf_Te_11 (gTe_0 _ _) d_Te_byteAt_6 ?_
    refine alen C hP 1 rfl (t0 := 2) rfl (v := 600) (by decide) d_Te_byteAt_9 ?_
    refine lv_icmp_ge (tgt := 22) hx hb d_Te_byteAt_10 (by decide) (fun c2 => ?_) (fun c2 => ?_)
    · have hz := hz.trans (if_pos c2)
      exact k_Te_byteAt_22 C () trivial _ hz _ _ ls hP hD hS (lv_sub hl [] rfl)
    · have hz := hz.trans (if_neg c2)
      refine lv_aload_n hx hb d_Te_byteAt_13 rfl (lv_at hl 0 rfl) ?_
      refine gf C hP 0 0 fkTe rfl (by decide) rfl qf_Te_11 (gTe_0 _ _) d_Te_byteAt_14 ?_
      refine lv_iload_n hx hb d_Te_byteAt_17 rfl (lv_at hl 1 rfl) ?_
      refine ldB C hP 1 rfl (vi2 (vlo c1) (vhi c2) (by decide)) rfl d_Te_byteAt_18 ?_
      refine lv_goto (tgt := 23) hx hb d_Te_byteAt_19 (by decide) ?_
      exact endI0 C hz hP hS d_Te_byteAt_23
abbrev rm_Te_kindAt : Room := { frames := 0, cells := 0, slots := 0, locals := 0 }
def HL_Te_kindAt_22 (p : Program) (l : Launch) (e : Env) (s : State) (m : MethodId) (args : Array Value) (below : List Frame) (meth : Method) (c : Code) (g : GX) (qte : Nat) (qteb : Nat) (t : IV) (tb : IV) (sp : Int32) (ok : Prop) : Prop := ∀ (_ : Unit), ok → ∀ z : Int32, z = sp → ∀ (H : Heap) (locs : List Loc) (ls : Array Slot), va_P g.1 vwCl (wTe g qte qteb t tb) H → va_D (inW (wTe g qte qteb t tb)) (wTe g qte qteb t tb) → va_S (inW (wTe g qte qteb t tb)) s.heap H locs → lv_has ls 3 [] → W p l e rm_Te_kindAt s m args below meth c H locs 0 0 (MQ below (CI0 g (wTe g qte qteb t tb) z) args s 0 0 (inW (wTe g qte qteb t tb))) (F0 m 22 ls [])
def HL_Te_kindAt_23 (p : Program) (l : Launch) (e : Env) (s : State) (m : MethodId) (args : Array Value) (below : List Frame) (meth : Method) (c : Code) (g : GX) (qte : Nat) (qteb : Nat) (t : IV) (tb : IV) (sp : Int32 → Int32) (ok : Int32 → Prop) : Prop := ∀ (t0p23 : Int32), ok t0p23 → ∀ z : Int32, z = sp t0p23 → ∀ (H : Heap) (locs : List Loc) (ls : Array Slot), va_P g.1 vwCl (wTe g qte qteb t tb) H → va_D (inW (wTe g qte qteb t tb)) (wTe g qte qteb t tb) → va_S (inW (wTe g qte qteb t tb)) s.heap H locs → lv_has ls 3 [] → W p l e rm_Te_kindAt s m args below meth c H locs 0 0 (MQ below (CI0 g (wTe g qte qteb t tb) z) args s 0 0 (inW (wTe g qte qteb t tb))) (F0 m 23 ls [.int t0p23])
def HL_Te_kindAt_39 (p : Program) (l : Launch) (e : Env) (s : State) (m : MethodId) (args : Array Value) (below : List Frame) (meth : Method) (c : Code) (g : GX) (qte : Nat) (qteb : Nat) (t : IV) (tb : IV) (t0p23 : Int32) (sp : Int32) (ok : Prop) : Prop := ∀ (_ : Unit), ok → ∀ z : Int32, z = sp → ∀ (H : Heap) (locs : List Loc) (ls : Array Slot), va_P g.1 vwCl (wTe g qte qteb t tb) H → va_D (inW (wTe g qte qteb t tb)) (wTe g qte qteb t tb) → va_S (inW (wTe g qte qteb t tb)) s.heap H locs → lv_has ls 3 [(2, .int t0p23)] → W p l e rm_Te_kindAt s m args below meth c H locs 0 0 (MQ below (CI0 g (wTe g qte qteb t tb) z) args s 0 0 (inW (wTe g qte qteb t tb))) (F0 m 39 ls [])
def HL_Te_kindAt_54 (p : Program) (l : Launch) (e : Env) (s : State) (m : MethodId) (args : Array Value) (below : List Frame) (meth : Method) (c : Code) (g : GX) (qte : Nat) (qteb : Nat) (t : IV) (tb : IV) (t0p23 : Int32) (sp : Int32) (ok : Prop) : Prop := ∀ (_ : Unit), ok → ∀ z : Int32, z = sp → ∀ (H : Heap) (locs : List Loc) (ls : Array Slot), va_P g.1 vwCl (wTe g qte qteb t tb) H → va_D (inW (wTe g qte qteb t tb)) (wTe g qte qteb t tb) → va_S (inW (wTe g qte qteb t tb)) s.heap H locs → lv_has ls 3 [(2, .int t0p23)] → W p l e rm_Te_kindAt s m args below meth c H locs 0 0 (MQ below (CI0 g (wTe g qte qteb t tb) z) args s 0 0 (inW (wTe g qte qteb t tb))) (F0 m 54 ls [])
def HL_Te_kindAt_93 (p : Program) (l : Launch) (e : Env) (s : State) (m : MethodId) (args : Array Value) (below : List Frame) (meth : Method) (c : Code) (g : GX) (qte : Nat) (qteb : Nat) (t : IV) (tb : IV) (t0p23 : Int32) (sp : Int32) (ok : Prop) : Prop := ∀ (_ : Unit), ok → ∀ z : Int32, z = sp → ∀ (H : Heap) (locs : List Loc) (ls : Array Slot), va_P g.1 vwCl (wTe g qte qteb t tb) H → va_D (inW (wTe g qte qteb t tb)) (wTe g qte qteb t tb) → va_S (inW (wTe g qte qteb t tb)) s.heap H locs → lv_has ls 3 [(2, .int t0p23)] → W p l e rm_Te_kindAt s m args below meth c H locs 0 0 (MQ below (CI0 g (wTe g qte qteb t tb) z) args s 0 0 (inW (wTe g qte qteb t tb))) (F0 m 93 ls [])
def HL_Te_kindAt_66 (p : Program) (l : Launch) (e : Env) (s : State) (m : MethodId) (args : Array Value) (below : List Frame) (meth : Method) (c : Code) (g : GX) (qte : Nat) (qteb : Nat) (t : IV) (tb : IV) (sp : Int32) (ok : Prop) : Prop := ∀ (_ : Unit), ok → ∀ z : Int32, z = sp → ∀ (H : Heap) (locs : List Loc) (ls : Array Slot), va_P g.1 vwCl (wTe g qte qteb t tb) H → va_D (inW (wTe g qte qteb t tb)) (wTe g qte qteb t tb) → va_S (inW (wTe g qte qteb t tb)) s.heap H locs → lv_has ls 3 [] → W p l e rm_Te_kindAt s m args below meth c H locs 0 0 (MQ below (CI0 g (wTe g qte qteb t tb) z) args s 0 0 (inW (wTe g qte qteb t tb))) (F0 m 66 ls [])
noncomputable def sp_Te_kindAt_66    : Int32 := (32 : Int32)
def ok_Te_kindAt_66     : Prop := True
set_option maxRecDepth 100000 in
set_option maxHeartbeats 4000000 in
theorem k_Te_kindAt_66 {p : Program} {l : Launch} {e : Env} {s : State} {m : MethodId} {args : Array Value} {below : List Frame} {meth : Method} {c : Code} {g : GX} {qte : Nat} {qteb : Nat} {t : IV} {tb : IV}  (C : Cx p s m args meth c (inW (wTe g qte qteb t tb)) g "DecadeBridge$Text" b_Te_kindAt (some .int) 3)  : HL_Te_kindAt_66 p l e s m args below meth c g qte qteb t tb (sp_Te_kindAt_66  ) (ok_Te_kindAt_66   ) := by
  intro _ hok z hz H locs ls hP hD hS hl
  obtain ⟨hx, hb, hr, hml, hown, hlk, hts, hK, hZo, hZ⟩ := id C
  unfold sp_Te_kindAt_66 at hz
  refine lv_bipush (v := 32) hx hb d_Te_kindAt_66 (by decide) ?_
  exact endI0 C hz hP hS d_Te_kindAt_68
noncomputable def sp_Te_kindAt_93 (t0p23 : Int32)   : Int32 := t0p23
def ok_Te_kindAt_93 (t0p23 : Int32)    : Prop := True
set_option maxRecDepth 100000 in
set_option maxHeartbeats 4000000 in
theorem k_Te_kindAt_93 {p : Program} {l : Launch} {e : Env} {s : State} {m : MethodId} {args : Array Value} {below : List Frame} {meth : Method} {c : Code} {g : GX} {qte : Nat} {qteb : Nat} {t : IV} {tb : IV} {t0p23 : Int32}  (C : Cx p s m args meth c (inW (wTe g qte qteb t tb)) g "DecadeBridge$Text" b_Te_kindAt (some .int) 3)  : HL_Te_kindAt_93 p l e s m args below meth c g qte qteb t tb t0p23 (sp_Te_kindAt_93 t0p23 ) (ok_Te_kindAt_93 t0p23  ) := by
  intro _ hok z hz H locs ls hP hD hS hl
  obtain ⟨hx, hb, hr, hml, hown, hlk, hts, hK, hZo, hZ⟩ := id C
  unfold sp_Te_kindAt_93 at hz
  refine lv_iload_n hx hb d_Te_kindAt_93 rfl (lv_at hl 0 rfl) ?_
  refine lv_goto (tgt := 98) hx hb d_Te_kindAt_94 (by decide) ?_
  exact endI0 C hz hP hS d_Te_kindAt_98
noncomputable def sp_Te_kindAt_54 (t0p23 : Int32)   : Int32 := if t0p23 = (32 : Int32) then (sp_Te_kindAt_66) else (if t0p23 = (10 : Int32) then (sp_Te_kindAt_66) else (if t0p23 = (59 : Int32) then (sp_Te_kindAt_93 t0p23) else (if t0p23 = (40 : Int32) then (sp_Te_kindAt_93 t0p23) else (if t0p23 = (41 : Int32) then (sp_Te_kindAt_93 t0p23) else (if t0p23 = (45 : Int32) then (sp_Te_kindAt_93 t0p23) else ((1 : Int32)))))))
def ok_Te_kindAt_54 (t0p23 : Int32)    : Prop := True
set_option maxRecDepth 100000 in
set_option maxHeartbeats 4000000 in
theorem k_Te_kindAt_54 {p : Program} {l : Launch} {e : Env} {s : State} {m : MethodId} {args : Array Value} {below : List Frame} {meth : Method} {c : Code} {g : GX} {qte : Nat} {qteb : Nat} {t : IV} {tb : IV} {t0p23 : Int32}  (C : Cx p s m args meth c (inW (wTe g qte qteb t tb)) g "DecadeBridge$Text" b_Te_kindAt (some .int) 3)  : HL_Te_kindAt_54 p l e s m args below meth c g qte qteb t tb t0p23 (sp_Te_kindAt_54 t0p23 ) (ok_Te_kindAt_54 t0p23  ) := by
  intro _ hok z hz H locs ls hP hD hS hl
  obtain ⟨hx, hb, hr, hml, hown, hlk, hts, hK, hZo, hZ⟩ := id C
  unfold sp_Te_kindAt_54 at hz
  refine lv_iload_n hx hb d_Te_kindAt_54 rfl (lv_at hl 0 rfl) ?_
  refine lv_bipush (v := 32) hx hb d_Te_kindAt_55 (by decide) ?_
  refine lv_icmp_eq (tgt := 66) hx hb d_Te_kindAt_57 (by decide) (fun c7 => ?_) (fun c7 => ?_)
  · have hz := hz.trans (if_pos c7)
    exact k_Te_kindAt_66 C () trivial _ hz _ _ ls hP hD hS (lv_sub hl [] rfl)
  · have hz := hz.trans (if_neg c7)
    refine lv_iload_n hx hb d_Te_kindAt_60 rfl (lv_at hl 0 rfl) ?_
    refine lv_bipush (v := 10) hx hb d_Te_kindAt_61 (by decide) ?_
    refine lv_icmp_ne (tgt := 69) hx hb d_Te_kindAt_63 (by decide) (fun c8 => ?_) (fun c8 => ?_)
    · have hz := hz.trans (if_neg c8)
      refine lv_iload_n hx hb d_Te_kindAt_69 rfl (lv_at hl 0 rfl) ?_
      refine lv_bipush (v := 59) hx hb d_Te_kindAt_70 (by decide) ?_
      refine lv_icmp_eq (tgt := 93) hx hb d_Te_kindAt_72 (by decide) (fun c9 => ?_) (fun c9 => ?_)
      · have hz := hz.trans (if_pos c9)
        exact k_Te_kindAt_93 C () trivial _ hz _ _ ls hP hD hS hl
      · have hz := hz.trans (if_neg c9)
        refine lv_iload_n hx hb d_Te_kindAt_75 rfl (lv_at hl 0 rfl) ?_
        refine lv_bipush (v := 40) hx hb d_Te_kindAt_76 (by decide) ?_
        refine lv_icmp_eq (tgt := 93) hx hb d_Te_kindAt_78 (by decide) (fun c10 => ?_) (fun c10 => ?_)
        · have hz := hz.trans (if_pos c10)
          exact k_Te_kindAt_93 C () trivial _ hz _ _ ls hP hD hS hl
        · have hz := hz.trans (if_neg c10)
          refine lv_iload_n hx hb d_Te_kindAt_81 rfl (lv_at hl 0 rfl) ?_
          refine lv_bipush (v := 41) hx hb d_Te_kindAt_82 (by decide) ?_
          refine lv_icmp_eq (tgt := 93) hx hb d_Te_kindAt_84 (by decide) (fun c11 => ?_) (fun c11 => ?_)
          · have hz := hz.trans (if_pos c11)
            exact k_Te_kindAt_93 C () trivial _ hz _ _ ls hP hD hS hl
          · have hz := hz.trans (if_neg c11)
            refine lv_iload_n hx hb d_Te_kindAt_87 rfl (lv_at hl 0 rfl) ?_
            refine lv_bipush (v := 45) hx hb d_Te_kindAt_88 (by decide) ?_
            refine lv_icmp_ne (tgt := 97) hx hb d_Te_kindAt_90 (by decide) (fun c12 => ?_) (fun c12 => ?_)
            · have hz := hz.trans (if_neg c12)
              refine lv_iconst (v := 1) hx hb d_Te_kindAt_97 (by decide) ?_
              exact endI0 C hz hP hS d_Te_kindAt_98
            · have hz := hz.trans (if_pos c12)
              exact k_Te_kindAt_93 C () trivial _ hz _ _ ls hP hD hS hl
    · have hz := hz.trans (if_pos c8)
      exact k_Te_kindAt_66 C () trivial _ hz _ _ ls hP hD hS (lv_sub hl [] rfl)
noncomputable def sp_Te_kindAt_39 (t0p23 : Int32)   : Int32 := if t0p23 < (48 : Int32) then (sp_Te_kindAt_54 t0p23) else (if (57 : Int32) < t0p23 then (sp_Te_kindAt_54 t0p23) else ((48 : Int32)))
def ok_Te_kindAt_39 (t0p23 : Int32)    : Prop := True
set_option maxRecDepth 100000 in
set_option maxHeartbeats 4000000 in
theorem k_Te_kindAt_39 {p : Program} {l : Launch} {e : Env} {s : State} {m : MethodId} {args : Array Value} {below : List Frame} {meth : Method} {c : Code} {g : GX} {qte : Nat} {qteb : Nat} {t : IV} {tb : IV} {t0p23 : Int32}  (C : Cx p s m args meth c (inW (wTe g qte qteb t tb)) g "DecadeBridge$Text" b_Te_kindAt (some .int) 3)  : HL_Te_kindAt_39 p l e s m args below meth c g qte qteb t tb t0p23 (sp_Te_kindAt_39 t0p23 ) (ok_Te_kindAt_39 t0p23  ) := by
  intro _ hok z hz H locs ls hP hD hS hl
  obtain ⟨hx, hb, hr, hml, hown, hlk, hts, hK, hZo, hZ⟩ := id C
  unfold sp_Te_kindAt_39 at hz
  refine lv_iload_n hx hb d_Te_kindAt_39 rfl (lv_at hl 0 rfl) ?_
  refine lv_bipush (v := 48) hx hb d_Te_kindAt_40 (by decide) ?_
  refine lv_icmp_lt (tgt := 54) hx hb d_Te_kindAt_42 (by decide) (fun c5 => ?_) (fun c5 => ?_)
  · have hz := hz.trans (if_pos c5)
    exact k_Te_kindAt_54 C () trivial _ hz _ _ ls hP hD hS hl
  · have hz := hz.trans (if_neg c5)
    refine lv_iload_n hx hb d_Te_kindAt_45 rfl (lv_at hl 0 rfl) ?_
    refine lv_bipush (v := 57) hx hb d_Te_kindAt_46 (by decide) ?_
    refine lv_icmp_gt (tgt := 54) hx hb d_Te_kindAt_48 (by decide) (fun c6 => ?_) (fun c6 => ?_)
    · have hz := hz.trans (if_pos c6)
      exact k_Te_kindAt_54 C () trivial _ hz _ _ ls hP hD hS hl
    · have hz := hz.trans (if_neg c6)
      refine lv_bipush (v := 48) hx hb d_Te_kindAt_51 (by decide) ?_
      exact endI0 C hz hP hS d_Te_kindAt_53
noncomputable def sp_Te_kindAt_23   (t0p23 : Int32) : Int32 := if t0p23 < (97 : Int32) then (sp_Te_kindAt_39 t0p23) else (if (122 : Int32) < t0p23 then (sp_Te_kindAt_39 t0p23) else ((97 : Int32)))
def ok_Te_kindAt_23    (t0p23 : Int32) : Prop := True
set_option maxRecDepth 100000 in
set_option maxHeartbeats 4000000 in
theorem k_Te_kindAt_23 {p : Program} {l : Launch} {e : Env} {s : State} {m : MethodId} {args : Array Value} {below : List Frame} {meth : Method} {c : Code} {g : GX} {qte : Nat} {qteb : Nat} {t : IV} {tb : IV}  (C : Cx p s m args meth c (inW (wTe g qte qteb t tb)) g "DecadeBridge$Text" b_Te_kindAt (some .int) 3)  : HL_Te_kindAt_23 p l e s m args below meth c g qte qteb t tb (sp_Te_kindAt_23  ) (ok_Te_kindAt_23   ) := by
  intro t0p23 hok z hz H locs ls hP hD hS hl
  obtain ⟨hx, hb, hr, hml, hown, hlk, hts, hK, hZo, hZ⟩ := id C
  unfold sp_Te_kindAt_23 at hz
  refine lv_istore_n (lv' := [(2, .int t0p23)]) hx hb d_Te_kindAt_23 rfl hl (by decide) rfl (fun ls hl => ?_)
  refine lv_iload_n hx hb d_Te_kindAt_24 rfl (lv_at hl 0 rfl) ?_
  refine lv_bipush (v := 97) hx hb d_Te_kindAt_25 (by decide) ?_
  refine lv_icmp_lt (tgt := 39) hx hb d_Te_kindAt_27 (by decide) (fun c3 => ?_) (fun c3 => ?_)
  · have hz := hz.trans (if_pos c3)
    exact k_Te_kindAt_39 C () trivial _ hz _ _ ls hP hD hS hl
  · have hz := hz.trans (if_neg c3)
    refine lv_iload_n hx hb d_Te_kindAt_30 rfl (lv_at hl 0 rfl) ?_
    refine lv_bipush (v := 122) hx hb d_Te_kindAt_31 (by decide) ?_
    refine lv_icmp_gt (tgt := 39) hx hb d_Te_kindAt_33 (by decide) (fun c4 => ?_) (fun c4 => ?_)
    · have hz := hz.trans (if_pos c4)
      exact k_Te_kindAt_39 C () trivial _ hz _ _ ls hP hD hS hl
    · have hz := hz.trans (if_neg c4)
      refine lv_bipush (v := 97) hx hb d_Te_kindAt_36 (by decide) ?_
      exact endI0 C hz hP hS d_Te_kindAt_38
noncomputable def sp_Te_kindAt_22    : Int32 := sp_Te_kindAt_23 (0 : Int32)
def ok_Te_kindAt_22     : Prop := True
set_option maxRecDepth 100000 in
set_option maxHeartbeats 4000000 in
theorem k_Te_kindAt_22 {p : Program} {l : Launch} {e : Env} {s : State} {m : MethodId} {args : Array Value} {below : List Frame} {meth : Method} {c : Code} {g : GX} {qte : Nat} {qteb : Nat} {t : IV} {tb : IV}  (C : Cx p s m args meth c (inW (wTe g qte qteb t tb)) g "DecadeBridge$Text" b_Te_kindAt (some .int) 3)  : HL_Te_kindAt_22 p l e s m args below meth c g qte qteb t tb (sp_Te_kindAt_22  ) (ok_Te_kindAt_22   ) := by
  intro _ hok z hz H locs ls hP hD hS hl
  obtain ⟨hx, hb, hr, hml, hown, hlk, hts, hK, hZo, hZ⟩ := id C
  unfold sp_Te_kindAt_22 at hz
  refine lv_iconst (v := 0) hx hb d_Te_kindAt_22 (by decide) ?_
  exact k_Te_kindAt_23 C (0 : Int32) trivial _ hz _ _ ls hP hD hS hl
noncomputable def sp_Te_kindAt (p1 : Int32) (tb : IV) : Int32 := if p1 < 0 then (sp_Te_kindAt_22) else (if (600 : Int32) ≤ p1 then (sp_Te_kindAt_22) else (sp_Te_kindAt_23 (tb p1.toNatClampNeg)))
set_option maxRecDepth 100000 in
set_option maxHeartbeats 4000000 in
theorem c_Te_kindAt (l : Launch) (g : GX) (qte : Nat) (qteb : Nat) (t : IV) (tb : IV) (p1 : Int32) : Met l y_Te_kindAt (wsY y_Te_kindAt b_Te_kindAt 3 (some .int)) rm_Te_kindAt (CP g [.ref qte, .int p1] (wTe g qte qteb t tb)) (CI0 g (wTe g qte qteb t tb) (sp_Te_kindAt p1 tb)) 0 0 (inW (wTe g qte qteb t tb)) := by
  refine Met.ofW (cc := b_Te_kindAt) (maxL := 3) (ret := (some .int)) pn_Te rfl ?_
  intro p e s m args below meth c s₁ B hml hv
  obtain ⟨rfl, C, hP, hD, hS⟩ := enter "DecadeBridge$Text" rfl B hml hv
  obtain ⟨hx, hb, hr, hml, hown, hlk, hts, hK, hZo, hZ⟩ := id C
  refine entryW (lv := [(0, .ref qte), (1, .int p1)]) rfl (Nat.le_of_ble_eq_true rfl) (fun ls hl => ?_)
  obtain ⟨z, hz⟩ : ∃ z, z = sp_Te_kindAt p1 tb := ⟨_, rfl⟩
  rw [← hz]
  unfold sp_Te_kindAt at hz
  refine lv_iload_n hx hb d_Te_kindAt_0 rfl (lv_at hl 1 rfl) ?_
  refine lv_if_lt (tgt := 22) hx hb d_Te_kindAt_1 (by decide) (fun c1 => ?_) (fun c1 => ?_)
  · have hz := hz.trans (if_pos c1)
    exact k_Te_kindAt_22 C () trivial _ hz _ _ ls hP hD hS (lv_sub hl [] rfl)
  · have hz := hz.trans (if_neg c1)
    refine lv_iload_n hx hb d_Te_kindAt_4 rfl (lv_at hl 1 rfl) ?_
    refine lv_aload_n hx hb d_Te_kindAt_5 rfl (lv_at hl 0 rfl) ?_
    refine gf C hP 0 0 fkTe rfl (by decide) rfl qf_Te_11 (gTe_0 _ _) d_Te_kindAt_6 ?_
    refine alen C hP 1 rfl (t0 := 2) rfl (v := 600) (by decide) d_Te_kindAt_9 ?_
    refine lv_icmp_ge (tgt := 22) hx hb d_Te_kindAt_10 (by decide) (fun c2 => ?_) (fun c2 => ?_)
    · have hz := hz.trans (if_pos c2)
      exact k_Te_kindAt_22 C () trivial _ hz _ _ ls hP hD hS (lv_sub hl [] rfl)
    · have hz := hz.trans (if_neg c2)
      refine lv_aload_n hx hb d_Te_kindAt_13 rfl (lv_at hl 0 rfl) ?_
      refine gf C hP 0 0 fkTe rfl (by decide) rfl qf_Te_11 (gTe_0 _ _) d_Te_kindAt_14 ?_
      refine lv_iload_n hx hb d_Te_kindAt_17 rfl (lv_at hl 1 rfl) ?_
      refine ldB C hP 1 rfl (vi2 (vlo c1) (vhi c2) (by decide)) rfl d_Te_kindAt_18 ?_
      refine lv_goto (tgt := 23) hx hb d_Te_kindAt_19 (by decide) ?_
      exact k_Te_kindAt_23 C (tb p1.toNatClampNeg) trivial _ hz _ _ ls hP hD hS (lv_sub hl [] rfl)
abbrev rm_Ci_copy : Room := { frames := 1, cells := 0, slots := 0, locals := 25 }
noncomputable def sp_Ci_copy (ca : IV) (cal : LV) (ka : IV) (kal : LV) (w0 : IV) (w3 : IV) (w4 : IV) : IV × LV := lett (upd ca 1 (ka 1)) fun (ca_1 : IV) => lett (upd ca_1 2 (ka 2)) fun (ca_2 : IV) => lett (upd ca_2 3 (ka 3)) fun (ca_3 : IV) => lett (upd ca_3 4 (ka 4)) fun (ca_4 : IV) => lett (upd ca_4 5 (ka 5)) fun (ca_5 : IV) => lett (upd ca_5 6 (ka 6)) fun (ca_7 : IV) => lett (upd ca_7 7 (ka 7)) fun (ca_8 : IV) => lett (upd ca_8 8 (ka 8)) fun (ca_9 : IV) => lett (upd ca_9 9 (ka 9)) fun (ca_10 : IV) => lett (upd ca_10 10 (ka 10)) fun (ca_11 : IV) => lett (upd ca_11 11 (ka 11)) fun (ca_12 : IV) => lett (vp_updL cal 12 (kal 12)) fun (cal_13 : LV) => lett (upd ca_12 13 (ka 13)) fun (ca_14 : IV) => lett (upd ca_14 14 (ka 14)) fun (ca_15 : IV) => lett (sp_Ci_survey ca_15 w0 w3 w4) fun (y16 : IV) => (y16, cal_13)
def ok_Ci_copy (ca : IV) (ka : IV) : Prop := lett (upd ca 1 (ka 1)) fun (ca_1 : IV) => lett (upd ca_1 2 (ka 2)) fun (ca_2 : IV) => lett (upd ca_2 3 (ka 3)) fun (ca_3 : IV) => lett (upd ca_3 4 (ka 4)) fun (ca_4 : IV) => lett (upd ca_4 5 (ka 5)) fun (ca_5 : IV) => (isB (ka 6)) ∧ True
set_option maxRecDepth 100000 in
set_option maxHeartbeats 4000000 in
theorem c_Ci_copy (l : Launch) (g : GX) (qci : Nat) (qcj : Nat) (qpa : Nat) (qpae : Nat) (qpar : Nat) (qpau : Nat) (qpab : Nat) (ca : IV) (cal : LV) (ka : IV) (kal : LV) (w0 : IV) (w1 : IV) (w2 : IV) (w3 : IV) (w4 : IV)  (hok : ok_Ci_copy ca ka) : Met l y_Ci_copy (wsY y_Ci_copy b_Ci_copy 2 none) rm_Ci_copy (CP g [.ref qci, .ref qcj] (wCC g qci qcj qpa qpae qpar qpau qpab ca cal ka kal w0 w1 w2 w3 w4)) (CV g (wCC g qci qcj qpa qpae qpar qpau qpab ca cal ka kal w0 w1 w2 w3 w4) (fun u : IV × LV => wCC g qci qcj qpa qpae qpar qpau qpab u.1 u.2 ka kal w0 w1 w2 w3 w4) (sp_Ci_copy ca cal ka kal w0 w3 w4)) 0 0 (inW (wCC g qci qcj qpa qpae qpar qpau qpab ca cal ka kal w0 w1 w2 w3 w4)) := by
  refine Met.ofW (cc := b_Ci_copy) (maxL := 2) (ret := none) pn_Ci rfl ?_
  intro p e s m args below meth c s₁ B hml hv
  obtain ⟨rfl, C, hP, hD, hS⟩ := enter "DecadeBridge$Circuit" rfl B hml hv
  obtain ⟨hx, hb, hr, hml, hown, hlk, hts, hK, hZo, hZ⟩ := id C
  refine entryW (lv := [(0, .ref qci), (1, .ref qcj)]) rfl (Nat.le_of_ble_eq_true rfl) (fun ls hl => ?_)
  obtain ⟨z, hz⟩ : ∃ z, z = sp_Ci_copy ca cal ka kal w0 w3 w4 := ⟨_, rfl⟩
  rw [← hz]
  unfold sp_Ci_copy at hz
  unfold ok_Ci_copy at hok
  refine lv_aload_n hx hb d_Ci_copy_0 rfl (lv_at hl 0 rfl) ?_
  refine lv_aload_n hx hb d_Ci_copy_1 rfl (lv_at hl 1 rfl) ?_
  refine gf C hP 1 1 fkCi rfl (by decide) rfl qf_Ci_61 (gCi_1 _ _ _) d_Ci_copy_2 ?_
  refine pfI C hP hD hS 0 1 fkCi rfl (by decide) rfl qf_Ci_61 rfl rfl rfl (Nat.le_of_ble_eq_true rfl) (ff := fun o => fCi qpa o cal) (sCi_1 _ _ _ _) d_Ci_copy_5 (fun ca_1 eca_1 H locs hP hD hS => ?_)
  have hP : va_P g.1 vwCl (wCC g qci qcj qpa qpae qpar qpau qpab ca_1 cal ka kal w0 w1 w2 w3 w4) H := hP
  have hD : va_D (inW (wCC g qci qcj qpa qpae qpar qpau qpab ca cal ka kal w0 w1 w2 w3 w4)) (wCC g qci qcj qpa qpae qpar qpau qpab ca_1 cal ka kal w0 w1 w2 w3 w4) := hD
  have hz := lett_z hz eca_1
  have hok := lett_o hok eca_1
  refine lv_aload_n hx hb d_Ci_copy_8 rfl (lv_at hl 0 rfl) ?_
  refine lv_aload_n hx hb d_Ci_copy_9 rfl (lv_at hl 1 rfl) ?_
  refine gf C hP 1 2 fkCi rfl (by decide) rfl qf_Ci_64 (gCi_2 _ _ _) d_Ci_copy_10 ?_
  refine pfI C hP hD hS 0 2 fkCi rfl (by decide) rfl qf_Ci_64 rfl rfl rfl (Nat.le_of_ble_eq_true rfl) (ff := fun o => fCi qpa o cal) (sCi_2 _ _ _ _) d_Ci_copy_13 (fun ca_2 eca_2 H locs hP hD hS => ?_)
  have hP : va_P g.1 vwCl (wCC g qci qcj qpa qpae qpar qpau qpab ca_2 cal ka kal w0 w1 w2 w3 w4) H := hP
  have hD : va_D (inW (wCC g qci qcj qpa qpae qpar qpau qpab ca cal ka kal w0 w1 w2 w3 w4)) (wCC g qci qcj qpa qpae qpar qpau qpab ca_2 cal ka kal w0 w1 w2 w3 w4) := hD
  have hz := lett_z hz eca_2
  have hok := lett_o hok eca_2
  refine lv_aload_n hx hb d_Ci_copy_16 rfl (lv_at hl 0 rfl) ?_
  refine lv_aload_n hx hb d_Ci_copy_17 rfl (lv_at hl 1 rfl) ?_
  refine gf C hP 1 3 fkCi rfl (by decide) rfl qf_Ci_22 (gCi_3 _ _ _) d_Ci_copy_18 ?_
  refine pfI C hP hD hS 0 3 fkCi rfl (by decide) rfl qf_Ci_22 rfl rfl rfl (Nat.le_of_ble_eq_true rfl) (ff := fun o => fCi qpa o cal) (sCi_3 _ _ _ _) d_Ci_copy_21 (fun ca_3 eca_3 H locs hP hD hS => ?_)
  have hP : va_P g.1 vwCl (wCC g qci qcj qpa qpae qpar qpau qpab ca_3 cal ka kal w0 w1 w2 w3 w4) H := hP
  have hD : va_D (inW (wCC g qci qcj qpa qpae qpar qpau qpab ca cal ka kal w0 w1 w2 w3 w4)) (wCC g qci qcj qpa qpae qpar qpau qpab ca_3 cal ka kal w0 w1 w2 w3 w4) := hD
  have hz := lett_z hz eca_3
  have hok := lett_o hok eca_3
  refine lv_aload_n hx hb d_Ci_copy_24 rfl (lv_at hl 0 rfl) ?_
  refine lv_aload_n hx hb d_Ci_copy_25 rfl (lv_at hl 1 rfl) ?_
  refine gf C hP 1 4 fkCi rfl (by decide) rfl qf_Ci_50 (gCi_4 _ _ _) d_Ci_copy_26 ?_
  refine pfI C hP hD hS 0 4 fkCi rfl (by decide) rfl qf_Ci_50 rfl rfl rfl (Nat.le_of_ble_eq_true rfl) (ff := fun o => fCi qpa o cal) (sCi_4 _ _ _ _) d_Ci_copy_29 (fun ca_4 eca_4 H locs hP hD hS => ?_)
  have hP : va_P g.1 vwCl (wCC g qci qcj qpa qpae qpar qpau qpab ca_4 cal ka kal w0 w1 w2 w3 w4) H := hP
  have hD : va_D (inW (wCC g qci qcj qpa qpae qpar qpau qpab ca cal ka kal w0 w1 w2 w3 w4)) (wCC g qci qcj qpa qpae qpar qpau qpab ca_4 cal ka kal w0 w1 w2 w3 w4) := hD
  have hz := lett_z hz eca_4
  have hok := lett_o hok eca_4
  refine lv_aload_n hx hb d_Ci_copy_32 rfl (lv_at hl 0 rfl) ?_
  refine lv_aload_n hx hb d_Ci_copy_33 rfl (lv_at hl 1 rfl) ?_
  refine gf C hP 1 5 fkCi rfl (by decide) rfl qf_Ci_67 (gCi_5 _ _ _) d_Ci_copy_34 ?_
  refine pfI C hP hD hS 0 5 fkCi rfl (by decide) rfl qf_Ci_67 rfl rfl rfl (Nat.le_of_ble_eq_true rfl) (ff := fun o => fCi qpa o cal) (sCi_5 _ _ _ _) d_Ci_copy_37 (fun ca_5 eca_5 H locs hP hD hS => ?_)
  have hP : va_P g.1 vwCl (wCC g qci qcj qpa qpae qpar qpau qpab ca_5 cal ka kal w0 w1 w2 w3 w4) H := hP
  have hD : va_D (inW (wCC g qci qcj qpa qpae qpar qpau qpab ca cal ka kal w0 w1 w2 w3 w4)) (wCC g qci qcj qpa qpae qpar qpau qpab ca_5 cal ka kal w0 w1 w2 w3 w4) := hD
  have hz := lett_z hz eca_5
  have hok := lett_o hok eca_5
  refine lv_aload_n hx hb d_Ci_copy_40 rfl (lv_at hl 0 rfl) ?_
  refine lv_aload_n hx hb d_Ci_copy_41 rfl (lv_at hl 1 rfl) ?_
  refine gf C hP 1 6 fkCi rfl (by decide) rfl qf_Ci_23 (gCi_6 _ _ _) d_Ci_copy_42 ?_
  have hs6 := hok.1
  have hok := hok.2
  refine pfI C hP hD hS 0 6 fkCi rfl (by decide) rfl qf_Ci_23 rfl (isB_nar hs6) (isB_fit hs6) (Nat.le_of_ble_eq_true rfl) (ff := fun o => fCi qpa o cal) (sCi_6 _ _ _ _) d_Ci_copy_45 (fun ca_7 eca_7 H locs hP hD hS => ?_)
  have hP : va_P g.1 vwCl (wCC g qci qcj qpa qpae qpar qpau qpab ca_7 cal ka kal w0 w1 w2 w3 w4) H := hP
  have hD : va_D (inW (wCC g qci qcj qpa qpae qpar qpau qpab ca cal ka kal w0 w1 w2 w3 w4)) (wCC g qci qcj qpa qpae qpar qpau qpab ca_7 cal ka kal w0 w1 w2 w3 w4) := hD
  have hz := lett_z hz eca_7
  refine lv_aload_n hx hb d_Ci_copy_48 rfl (lv_at hl 0 rfl) ?_
  refine lv_aload_n hx hb d_Ci_copy_49 rfl (lv_at hl 1 rfl) ?_
  refine gf C hP 1 7 fkCi rfl (by decide) rfl qf_Ci_27 (gCi_7 _ _ _) d_Ci_copy_50 ?_
  refine pfI C hP hD hS 0 7 fkCi rfl (by decide) rfl qf_Ci_27 rfl rfl rfl (Nat.le_of_ble_eq_true rfl) (ff := fun o => fCi qpa o cal) (sCi_7 _ _ _ _) d_Ci_copy_53 (fun ca_8 eca_8 H locs hP hD hS => ?_)
  have hP : va_P g.1 vwCl (wCC g qci qcj qpa qpae qpar qpau qpab ca_8 cal ka kal w0 w1 w2 w3 w4) H := hP
  have hD : va_D (inW (wCC g qci qcj qpa qpae qpar qpau qpab ca cal ka kal w0 w1 w2 w3 w4)) (wCC g qci qcj qpa qpae qpar qpau qpab ca_8 cal ka kal w0 w1 w2 w3 w4) := hD
  have hz := lett_z hz eca_8
  refine lv_aload_n hx hb d_Ci_copy_56 rfl (lv_at hl 0 rfl) ?_
  refine lv_aload_n hx hb d_Ci_copy_57 rfl (lv_at hl 1 rfl) ?_
  refine gf C hP 1 8 fkCi rfl (by decide) rfl qf_Ci_30 (gCi_8 _ _ _) d_Ci_copy_58 ?_
  refine pfI C hP hD hS 0 8 fkCi rfl (by decide) rfl qf_Ci_30 rfl rfl rfl (Nat.le_of_ble_eq_true rfl) (ff := fun o => fCi qpa o cal) (sCi_8 _ _ _ _) d_Ci_copy_61 (fun ca_9 eca_9 H locs hP hD hS => ?_)
  have hP : va_P g.1 vwCl (wCC g qci qcj qpa qpae qpar qpau qpab ca_9 cal ka kal w0 w1 w2 w3 w4) H := hP
  have hD : va_D (inW (wCC g qci qcj qpa qpae qpar qpau qpab ca cal ka kal w0 w1 w2 w3 w4)) (wCC g qci qcj qpa qpae qpar qpau qpab ca_9 cal ka kal w0 w1 w2 w3 w4) := hD
  have hz := lett_z hz eca_9
  refine lv_aload_n hx hb d_Ci_copy_64 rfl (lv_at hl 0 rfl) ?_
  refine lv_aload_n hx hb d_Ci_copy_65 rfl (lv_at hl 1 rfl) ?_
  refine gf C hP 1 9 fkCi rfl (by decide) rfl qf_Ci_36 (gCi_9 _ _ _) d_Ci_copy_66 ?_
  refine pfI C hP hD hS 0 9 fkCi rfl (by decide) rfl qf_Ci_36 rfl rfl rfl (Nat.le_of_ble_eq_true rfl) (ff := fun o => fCi qpa o cal) (sCi_9 _ _ _ _) d_Ci_copy_69 (fun ca_10 eca_10 H locs hP hD hS => ?_)
  have hP : va_P g.1 vwCl (wCC g qci qcj qpa qpae qpar qpau qpab ca_10 cal ka kal w0 w1 w2 w3 w4) H := hP
  have hD : va_D (inW (wCC g qci qcj qpa qpae qpar qpau qpab ca cal ka kal w0 w1 w2 w3 w4)) (wCC g qci qcj qpa qpae qpar qpau qpab ca_10 cal ka kal w0 w1 w2 w3 w4) := hD
  have hz := lett_z hz eca_10
  refine lv_aload_n hx hb d_Ci_copy_72 rfl (lv_at hl 0 rfl) ?_
  refine lv_aload_n hx hb d_Ci_copy_73 rfl (lv_at hl 1 rfl) ?_
  refine gf C hP 1 10 fkCi rfl (by decide) rfl qf_Ci_37 (gCi_10 _ _ _) d_Ci_copy_74 ?_
  refine pfI C hP hD hS 0 10 fkCi rfl (by decide) rfl qf_Ci_37 rfl rfl rfl (Nat.le_of_ble_eq_true rfl) (ff := fun o => fCi qpa o cal) (sCi_10 _ _ _ _) d_Ci_copy_77 (fun ca_11 eca_11 H locs hP hD hS => ?_)
  have hP : va_P g.1 vwCl (wCC g qci qcj qpa qpae qpar qpau qpab ca_11 cal ka kal w0 w1 w2 w3 w4) H := hP
  have hD : va_D (inW (wCC g qci qcj qpa qpae qpar qpau qpab ca cal ka kal w0 w1 w2 w3 w4)) (wCC g qci qcj qpa qpae qpar qpau qpab ca_11 cal ka kal w0 w1 w2 w3 w4) := hD
  have hz := lett_z hz eca_11
  refine lv_aload_n hx hb d_Ci_copy_80 rfl (lv_at hl 0 rfl) ?_
  refine lv_aload_n hx hb d_Ci_copy_81 rfl (lv_at hl 1 rfl) ?_
  refine gf C hP 1 11 fkCi rfl (by decide) rfl qf_Ci_43 (gCi_11 _ _ _) d_Ci_copy_82 ?_
  refine pfI C hP hD hS 0 11 fkCi rfl (by decide) rfl qf_Ci_43 rfl rfl rfl (Nat.le_of_ble_eq_true rfl) (ff := fun o => fCi qpa o cal) (sCi_11 _ _ _ _) d_Ci_copy_85 (fun ca_12 eca_12 H locs hP hD hS => ?_)
  have hP : va_P g.1 vwCl (wCC g qci qcj qpa qpae qpar qpau qpab ca_12 cal ka kal w0 w1 w2 w3 w4) H := hP
  have hD : va_D (inW (wCC g qci qcj qpa qpae qpar qpau qpab ca cal ka kal w0 w1 w2 w3 w4)) (wCC g qci qcj qpa qpae qpar qpau qpab ca_12 cal ka kal w0 w1 w2 w3 w4) := hD
  have hz := lett_z hz eca_12
  refine lv_aload_n hx hb d_Ci_copy_88 rfl (lv_at hl 0 rfl) ?_
  refine lv_aload_n hx hb d_Ci_copy_89 rfl (lv_at hl 1 rfl) ?_
  refine gf C hP 1 12 fkCi rfl (by decide) rfl qf_Ci_46 (gCi_12 _ _ _) d_Ci_copy_90 ?_
  refine pfL C hP hD hS 0 12 fkCi rfl (by decide) rfl qf_Ci_46 rfl rfl rfl (Nat.le_of_ble_eq_true rfl) (ff := fun o => fCi qpa ca_12 o) (sCi_12 _ _ _ _) d_Ci_copy_93 (fun cal_13 ecal_13 H locs hP hD hS => ?_)
  have hP : va_P g.1 vwCl (wCC g qci qcj qpa qpae qpar qpau qpab ca_12 cal_13 ka kal w0 w1 w2 w3 w4) H := hP
  have hD : va_D (inW (wCC g qci qcj qpa qpae qpar qpau qpab ca cal ka kal w0 w1 w2 w3 w4)) (wCC g qci qcj qpa qpae qpar qpau qpab ca_12 cal_13 ka kal w0 w1 w2 w3 w4) := hD
  have hz := lett_z hz ecal_13
  refine lv_aload_n hx hb d_Ci_copy_96 rfl (lv_at hl 0 rfl) ?_
  refine lv_aload_n hx hb d_Ci_copy_97 rfl (lv_at hl 1 rfl) ?_
  refine gf C hP 1 13 fkCi rfl (by decide) rfl qf_Ci_70 (gCi_13 _ _ _) d_Ci_copy_98 ?_
  refine pfI C hP hD hS 0 13 fkCi rfl (by decide) rfl qf_Ci_70 rfl rfl rfl (Nat.le_of_ble_eq_true rfl) (ff := fun o => fCi qpa o cal_13) (sCi_13 _ _ _ _) d_Ci_copy_101 (fun ca_14 eca_14 H locs hP hD hS => ?_)
  have hP : va_P g.1 vwCl (wCC g qci qcj qpa qpae qpar qpau qpab ca_14 cal_13 ka kal w0 w1 w2 w3 w4) H := hP
  have hD : va_D (inW (wCC g qci qcj qpa qpae qpar qpau qpab ca cal ka kal w0 w1 w2 w3 w4)) (wCC g qci qcj qpa qpae qpar qpau qpab ca_14 cal_13 ka kal w0 w1 w2 w3 w4) := hD
  have hz := lett_z hz eca_14
  refine lv_aload_n hx hb d_Ci_copy_104 rfl (lv_at hl 0 rfl) ?_
  refine lv_aload_n hx hb d_Ci_copy_105 rfl (lv_at hl 1 rfl) ?_
  refine gf C hP 1 14 fkCi rfl (by decide) rfl qf_Ci_73 (gCi_14 _ _ _) d_Ci_copy_106 ?_
  refine pfI C hP hD hS 0 14 fkCi rfl (by decide) rfl qf_Ci_73 rfl rfl rfl (Nat.le_of_ble_eq_true rfl) (ff := fun o => fCi qpa o cal_13) (sCi_14 _ _ _ _) d_Ci_copy_109 (fun ca_15 eca_15 H locs hP hD hS => ?_)
  have hP : va_P g.1 vwCl (wCC g qci qcj qpa qpae qpar qpau qpab ca_15 cal_13 ka kal w0 w1 w2 w3 w4) H := hP
  have hD : va_D (inW (wCC g qci qcj qpa qpae qpar qpau qpab ca cal ka kal w0 w1 w2 w3 w4)) (wCC g qci qcj qpa qpae qpar qpau qpab ca_15 cal_13 ka kal w0 w1 w2 w3 w4) := hD
  have hz := lett_z hz eca_15
  refine lv_aload_n hx hb d_Ci_copy_112 rfl (lv_at hl 0 rfl) ?_
  have hB : SubW g (inW (wCC g qci qcj qpa qpae qpar qpau qpab ca cal ka kal w0 w1 w2 w3 w4)) s (wCC g qci qcj qpa qpae qpar qpau qpab ca_15 cal_13 ka kal w0 w1 w2 w3 w4) (wCi g qci qpa qpae qpar qpau qpab ca_15 cal_13 w0 w1 w2 w3 w4) [0, 2, 3, 4, 5, 6] _ _ := ⟨rfl, rfl, hP, hD, hS⟩
  refine goV1 hB (run_v C mf_Ci_survey qm_Ci_76 (c_Ci_survey l g qci qpa qpae qpar qpau qpab ca_15 cal_13 w0 w1 w2 w3 w4) rfl rfl ⟨Nat.le_of_ble_eq_true rfl, Nat.le_of_ble_eq_true rfl⟩ ⟨Nat.le_of_ble_eq_true rfl, Nat.le_of_ble_eq_true rfl⟩ hB rfl rfl hl rfl rfl (Nat.le_of_ble_eq_true rfl) d_Ci_copy_113) (fun _ => rfl) (fun y16 ey16 H locs hP hD hS => ?_)
  have hP : va_P g.1 vwCl (wCC g qci qcj qpa qpae qpar qpau qpab y16 cal_13 ka kal w0 w1 w2 w3 w4) H := hP
  have hD : va_D (inW (wCC g qci qcj qpa qpae qpar qpau qpab ca cal ka kal w0 w1 w2 w3 w4)) (wCC g qci qcj qpa qpae qpar qpau qpab y16 cal_13 ka kal w0 w1 w2 w3 w4) := hD
  have hz := lett_z hz ey16
  exact endV C hz hP hS d_Ci_copy_116
abbrev rm_Ci_choose : Room := { frames := 1, cells := 0, slots := 0, locals := 23 }
def HL_Ci_choose_60 (p : Program) (l : Launch) (e : Env) (s : State) (m : MethodId) (args : Array Value) (below : List Frame) (meth : Method) (c : Code) (g : GX) (qci : Nat) (qpa : Nat) (qpae : Nat) (qpar : Nat) (qpau : Nat) (qpab : Nat) (ws0 : va_W) (ca_2 : IV) (cal : LV) (w0 : IV) (w1 : IV) (w2 : IV) (w3 : IV) (w4 : IV) (sp : Int32 → IV) (ok : Int32 → Prop) : Prop := ∀ (t1p60 : Int32), ok t1p60 → ∀ z : IV, z = sp t1p60 → ∀ (H : Heap) (locs : List Loc) (ls : Array Slot), va_P g.1 vwCl (wCi g qci qpa qpae qpar qpau qpab ca_2 cal w0 w1 w2 w3 w4) H → va_D (inW ws0) (wCi g qci qpa qpae qpar qpau qpab ca_2 cal w0 w1 w2 w3 w4) → va_S (inW ws0) s.heap H locs → lv_has ls 7 [] → W p l e rm_Ci_choose s m args below meth c H locs 0 0 (MQ below (CV g ws0 (fun u : IV => wCi g qci qpa qpae qpar qpau qpab u cal w0 w1 w2 w3 w4) z) args s 0 0 (inW ws0)) (F0 m 60 ls [.int t1p60, .ref qci])
noncomputable def sp_Ci_choose_60 (ca_2 : IV)  (t1p60 : Int32) : IV := lett (upd ca_2 13 t1p60) fun (ca_7 : IV) => ca_7
def ok_Ci_choose_60 (ca_2 : IV)   (t1p60 : Int32) : Prop := True
set_option maxRecDepth 100000 in
set_option maxHeartbeats 4000000 in
theorem k_Ci_choose_60 {p : Program} {l : Launch} {e : Env} {s : State} {m : MethodId} {args : Array Value} {below : List Frame} {meth : Method} {c : Code} {g : GX} {qci : Nat} {qpa : Nat} {qpae : Nat} {qpar : Nat} {qpau : Nat} {qpab : Nat} {ws0 : va_W} {ca_2 : IV} {cal : LV} {w0 : IV} {w1 : IV} {w2 : IV} {w3 : IV} {w4 : IV}  (C : Cx p s m args meth c (inW ws0) g "DecadeBridge$Circuit" b_Ci_choose none 7)  : HL_Ci_choose_60 p l e s m args below meth c g qci qpa qpae qpar qpau qpab ws0 ca_2 cal w0 w1 w2 w3 w4 (sp_Ci_choose_60 ca_2 ) (ok_Ci_choose_60 ca_2  ) := by
  intro t1p60 hok z hz H locs ls hP hD hS hl
  obtain ⟨hx, hb, hr, hml, hown, hlk, hts, hK, hZo, hZ⟩ := id C
  unfold sp_Ci_choose_60 at hz
  refine pfI C hP hD hS 0 13 fkCi rfl (by decide) rfl qf_Ci_70 rfl rfl rfl (Nat.le_of_ble_eq_true rfl) (ff := fun o => fCi qpa o cal) (sCi_13 _ _ _ _) d_Ci_choose_60 (fun ca_7 eca_7 H locs hP hD hS => ?_)
  have hP : va_P g.1 vwCl (wCi g qci qpa qpae qpar qpau qpab ca_7 cal w0 w1 w2 w3 w4) H := hP
  have hD : va_D (inW ws0) (wCi g qci qpa qpae qpar qpau qpab ca_7 cal w0 w1 w2 w3 w4) := hD
  have hz := lett_z hz eca_7
  exact endV C hz hP hS d_Ci_choose_63
noncomputable def sp_Ci_choose (p1 : Int32) (p2 : Int32) (ca : IV) (w2 : IV) : IV := lett (upd ca 1 p1) fun (ca_1 : IV) => lett (upd ca_1 2 p2) fun (ca_2 : IV) => lett (sp_Pa_valueOfKind (ca_2 2) w2) fun (y3 : Int32) => lett (sp_Pa_valueOfKind (ca_2 1) w2) fun (y4 : Int32) => lett (y4.toInt64 + y3.toInt64) fun (v5 : Int64) => if v5 = (0 : Int64) then (sp_Ci_choose_60 ca_2 (0 : Int32)) else (sp_Ci_choose_60 ca_2 ((((1000000000 : Int64) * y3.toInt64) / v5).toInt32))
set_option maxRecDepth 100000 in
set_option maxHeartbeats 4000000 in
theorem c_Ci_choose (l : Launch) (g : GX) (qci : Nat) (qpa : Nat) (qpae : Nat) (qpar : Nat) (qpau : Nat) (qpab : Nat) (ca : IV) (cal : LV) (w0 : IV) (w1 : IV) (w2 : IV) (w3 : IV) (w4 : IV) (p1 : Int32) (p2 : Int32) : Met l y_Ci_choose (wsY y_Ci_choose b_Ci_choose 7 none) rm_Ci_choose (CP g [.ref qci, .int p1, .int p2] (wCi g qci qpa qpae qpar qpau qpab ca cal w0 w1 w2 w3 w4)) (CV g (wCi g qci qpa qpae qpar qpau qpab ca cal w0 w1 w2 w3 w4) (fun u : IV => wCi g qci qpa qpae qpar qpau qpab u cal w0 w1 w2 w3 w4) (sp_Ci_choose p1 p2 ca w2)) 0 0 (inW (wCi g qci qpa qpae qpar qpau qpab ca cal w0 w1 w2 w3 w4)) := by
  refine Met.ofW (cc := b_Ci_choose) (maxL := 7) (ret := none) pn_Ci rfl ?_
  intro p e s m args below meth c s₁ B hml hv
  obtain ⟨rfl, C, hP, hD, hS⟩ := enter "DecadeBridge$Circuit" rfl B hml hv
  obtain ⟨hx, hb, hr, hml, hown, hlk, hts, hK, hZo, hZ⟩ := id C
  refine entryW (lv := [(0, .ref qci), (1, .int p1), (2, .int p2)]) rfl (Nat.le_of_ble_eq_true rfl) (fun ls hl => ?_)
  obtain ⟨z, hz⟩ : ∃ z, z = sp_Ci_choose p1 p2 ca w2 := ⟨_, rfl⟩
  rw [← hz]
  unfold sp_Ci_choose at hz
  refine lv_aload_n hx hb d_Ci_choose_0 rfl (lv_at hl 0 rfl) ?_
  refine lv_iload_n hx hb d_Ci_choose_1 rfl (lv_at hl 1 rfl) ?_
  refine pfI C hP hD hS 0 1 fkCi rfl (by decide) rfl qf_Ci_61 rfl rfl rfl (Nat.le_of_ble_eq_true rfl) (ff := fun o => fCi qpa o cal) (sCi_1 _ _ _ _) d_Ci_choose_2 (fun ca_1 eca_1 H locs hP hD hS => ?_)
  have hP : va_P g.1 vwCl (wCi g qci qpa qpae qpar qpau qpab ca_1 cal w0 w1 w2 w3 w4) H := hP
  have hD : va_D (inW (wCi g qci qpa qpae qpar qpau qpab ca cal w0 w1 w2 w3 w4)) (wCi g qci qpa qpae qpar qpau qpab ca_1 cal w0 w1 w2 w3 w4) := hD
  have hz := lett_z hz eca_1
  refine lv_aload_n hx hb d_Ci_choose_5 rfl (lv_at hl 0 rfl) ?_
  refine lv_iload_n hx hb d_Ci_choose_6 rfl (lv_at hl 2 rfl) ?_
  refine pfI C hP hD hS 0 2 fkCi rfl (by decide) rfl qf_Ci_64 rfl rfl rfl (Nat.le_of_ble_eq_true rfl) (ff := fun o => fCi qpa o cal) (sCi_2 _ _ _ _) d_Ci_choose_7 (fun ca_2 eca_2 H locs hP hD hS => ?_)
  have hP : va_P g.1 vwCl (wCi g qci qpa qpae qpar qpau qpab ca_2 cal w0 w1 w2 w3 w4) H := hP
  have hD : va_D (inW (wCi g qci qpa qpae qpar qpau qpab ca cal w0 w1 w2 w3 w4)) (wCi g qci qpa qpae qpar qpau qpab ca_2 cal w0 w1 w2 w3 w4) := hD
  have hz := lett_z hz eca_2
  refine lv_aload_n hx hb d_Ci_choose_10 rfl (lv_at hl 0 rfl) ?_
  refine gf C hP 0 0 fkCi rfl (by decide) rfl qf_Ci_7 (gCi_0 _ _ _) d_Ci_choose_11 ?_
  refine lv_aload_n hx hb d_Ci_choose_14 rfl (lv_at hl 0 rfl) ?_
  refine gf C hP 0 2 fkCi rfl (by decide) rfl qf_Ci_64 (gCi_2 _ _ _) d_Ci_choose_15 ?_
  have hB : SubW g (inW (wCi g qci qpa qpae qpar qpau qpab ca cal w0 w1 w2 w3 w4)) s (wCi g qci qpa qpae qpar qpau qpab ca_2 cal w0 w1 w2 w3 w4) (wPa g qpa qpae qpar qpau qpab w0 w1 w2 w3 w4) [1, 2, 3, 4, 5] _ _ := ⟨rfl, rfl, hP, hD, hS⟩
  refine goI0 hB (run_v C mf_Pa_valueOfKind qm_Ci_79 (c_Pa_valueOfKind l g qpa qpae qpar qpau qpab w0 w1 w2 w3 w4 (ca_2 2)) rfl rfl ⟨Nat.le_of_ble_eq_true rfl, Nat.le_of_ble_eq_true rfl⟩ ⟨Nat.le_of_ble_eq_true rfl, Nat.le_of_ble_eq_true rfl⟩ hB rfl rfl hl rfl rfl (Nat.le_of_ble_eq_true rfl) d_Ci_choose_18) (fun y3 ey3 H locs hP hS => ?_)
  have hz := lett_z hz ey3
  refine lv_i2l hx hb d_Ci_choose_21 rfl ?_
  refine lv_lstore_n (lv' := [(3, .long y3.toInt64), (0, .ref qci), (1, .int p1), (2, .int p2)]) hx hb d_Ci_choose_22 rfl hl (by decide) rfl (fun ls hl => ?_)
  refine lv_aload_n hx hb d_Ci_choose_23 rfl (lv_at hl 1 rfl) ?_
  refine gf C hP 0 0 fkCi rfl (by decide) rfl qf_Ci_7 (gCi_0 _ _ _) d_Ci_choose_24 ?_
  refine lv_aload_n hx hb d_Ci_choose_27 rfl (lv_at hl 1 rfl) ?_
  refine gf C hP 0 1 fkCi rfl (by decide) rfl qf_Ci_61 (gCi_1 _ _ _) d_Ci_choose_28 ?_
  have hB : SubW g (inW (wCi g qci qpa qpae qpar qpau qpab ca cal w0 w1 w2 w3 w4)) s (wCi g qci qpa qpae qpar qpau qpab ca_2 cal w0 w1 w2 w3 w4) (wPa g qpa qpae qpar qpau qpab w0 w1 w2 w3 w4) [1, 2, 3, 4, 5] _ _ := ⟨rfl, rfl, hP, hD, hS⟩
  refine goI0 hB (run_v C mf_Pa_valueOfKind qm_Ci_79 (c_Pa_valueOfKind l g qpa qpae qpar qpau qpab w0 w1 w2 w3 w4 (ca_2 1)) rfl rfl ⟨Nat.le_of_ble_eq_true rfl, Nat.le_of_ble_eq_true rfl⟩ ⟨Nat.le_of_ble_eq_true rfl, Nat.le_of_ble_eq_true rfl⟩ hB rfl rfl hl rfl rfl (Nat.le_of_ble_eq_true rfl) d_Ci_choose_31) (fun y4 ey4 H locs hP hS => ?_)
  have hz := lett_z hz ey4
  refine lv_i2l hx hb d_Ci_choose_34 rfl ?_
  refine lv_lload_n hx hb d_Ci_choose_35 rfl (lv_at hl 0 rfl) ?_
  refine lv_ladd hx hb d_Ci_choose_36 ?_
  refine lv_topl (fun v5 ev5 => ?_)
  have hz := lett_z hz ev5
  refine lv_lstore (lv' := [(5, .long v5), (3, .long y3.toInt64), (0, .ref qci), (1, .int p1), (2, .int p2)]) hx hb d_Ci_choose_37 hl (by decide) rfl (fun ls hl => ?_)
  refine lv_aload_n hx hb d_Ci_choose_39 rfl (lv_at hl 2 rfl) ?_
  refine lv_lload hx hb d_Ci_choose_40 (lv_at hl 0 rfl) ?_
  refine lv_lconst (v := 0) hx hb d_Ci_choose_42 (by decide) ?_
  refine lc_ne (tgt := 51) hx hb d_Ci_choose_43 d_Ci_choose_44 (by decide) (fun c6 => ?_) (fun c6 => ?_)
  · have hz := hz.trans (if_neg c6)
    refine lv_ldc2 hx hb hown (hts _ qk_Ci_83) d_Ci_choose_51 ?_
    refine lv_lload_n hx hb d_Ci_choose_54 rfl (lv_at hl 1 rfl) ?_
    refine lv_lmul hx hb d_Ci_choose_55 ?_
    refine lv_lload hx hb d_Ci_choose_56 (lv_at hl 0 rfl) ?_
    refine lv_ldiv hx hb d_Ci_choose_58 c6 ?_
    refine lv_l2i hx hb d_Ci_choose_59 rfl ?_
    exact k_Ci_choose_60 C ((((1000000000 : Int64) * y3.toInt64) / v5).toInt32) trivial _ hz _ _ ls hP hD hS (lv_sub hl [] rfl)
  · have hz := hz.trans (if_pos c6)
    refine lv_iconst (v := 0) hx hb d_Ci_choose_47 (by decide) ?_
    refine lv_goto (tgt := 60) hx hb d_Ci_choose_48 (by decide) ?_
    exact k_Ci_choose_60 C (0 : Int32) trivial _ hz _ _ ls hP hD hS (lv_sub hl [] rfl)
abbrev rm_Ci_dial : Room := { frames := 1, cells := 0, slots := 0, locals := 28 }
noncomputable def sp_Ci_dial (p1 : Int32) (ca : IV) (w0 : IV) (w1 : IV) (w3 : IV) (w4 : IV) : IV := lett (upd ca 5 p1) fun (ca_1 : IV) => lett (sp_Pa_coldAt p1 w0 w1) fun (y3 : Int32) => lett (upd ca_1 14 y3) fun (ca_4 : IV) => lett (sp_Ci_survey ca_4 w0 w3 w4) fun (y5 : IV) => y5
def ok_Ci_dial (p1 : Int32) (ca : IV) (w0 : IV) (w1 : IV) : Prop := lett (upd ca 5 p1) fun (ca_1 : IV) => (ok_Pa_coldAt p1 w0 w1) ∧ True
set_option maxRecDepth 100000 in
set_option maxHeartbeats 4000000 in
theorem c_Ci_dial (l : Launch) (g : GX) (qci : Nat) (qpa : Nat) (qpae : Nat) (qpar : Nat) (qpau : Nat) (qpab : Nat) (ca : IV) (cal : LV) (w0 : IV) (w1 : IV) (w2 : IV) (w3 : IV) (w4 : IV) (p1 : Int32) (hok : ok_Ci_dial p1 ca w0 w1) : Met l y_Ci_dial (wsY y_Ci_dial b_Ci_dial 2 none) rm_Ci_dial (CP g [.ref qci, .int p1] (wCi g qci qpa qpae qpar qpau qpab ca cal w0 w1 w2 w3 w4)) (CV g (wCi g qci qpa qpae qpar qpau qpab ca cal w0 w1 w2 w3 w4) (fun u : IV => wCi g qci qpa qpae qpar qpau qpab u cal w0 w1 w2 w3 w4) (sp_Ci_dial p1 ca w0 w1 w3 w4)) 0 0 (inW (wCi g qci qpa qpae qpar qpau qpab ca cal w0 w1 w2 w3 w4)) := by
  refine Met.ofW (cc := b_Ci_dial) (maxL := 2) (ret := none) pn_Ci rfl ?_
  intro p e s m args below meth c s₁ B hml hv
  obtain ⟨rfl, C, hP, hD, hS⟩ := enter "DecadeBridge$Circuit" rfl B hml hv
  obtain ⟨hx, hb, hr, hml, hown, hlk, hts, hK, hZo, hZ⟩ := id C
  refine entryW (lv := [(0, .ref qci), (1, .int p1)]) rfl (Nat.le_of_ble_eq_true rfl) (fun ls hl => ?_)
  obtain ⟨z, hz⟩ : ∃ z, z = sp_Ci_dial p1 ca w0 w1 w3 w4 := ⟨_, rfl⟩
  rw [← hz]
  unfold sp_Ci_dial at hz
  unfold ok_Ci_dial at hok
  refine lv_aload_n hx hb d_Ci_dial_0 rfl (lv_at hl 0 rfl) ?_
  refine lv_iload_n hx hb d_Ci_dial_1 rfl (lv_at hl 1 rfl) ?_
  refine pfI C hP hD hS 0 5 fkCi rfl (by decide) rfl qf_Ci_67 rfl rfl rfl (Nat.le_of_ble_eq_true rfl) (ff := fun o => fCi qpa o cal) (sCi_5 _ _ _ _) d_Ci_dial_2 (fun ca_1 eca_1 H locs hP hD hS => ?_)
  have hP : va_P g.1 vwCl (wCi g qci qpa qpae qpar qpau qpab ca_1 cal w0 w1 w2 w3 w4) H := hP
  have hD : va_D (inW (wCi g qci qpa qpae qpar qpau qpab ca cal w0 w1 w2 w3 w4)) (wCi g qci qpa qpae qpar qpau qpab ca_1 cal w0 w1 w2 w3 w4) := hD
  have hz := lett_z hz eca_1
  have hok := lett_o hok eca_1
  refine lv_aload_n hx hb d_Ci_dial_5 rfl (lv_at hl 0 rfl) ?_
  refine lv_aload_n hx hb d_Ci_dial_6 rfl (lv_at hl 0 rfl) ?_
  refine gf C hP 0 0 fkCi rfl (by decide) rfl qf_Ci_7 (gCi_0 _ _ _) d_Ci_dial_7 ?_
  refine lv_iload_n hx hb d_Ci_dial_10 rfl (lv_at hl 1 rfl) ?_
  have hs2 := hok.1
  have hok := hok.2
  have hB : SubW g (inW (wCi g qci qpa qpae qpar qpau qpab ca cal w0 w1 w2 w3 w4)) s (wCi g qci qpa qpae qpar qpau qpab ca_1 cal w0 w1 w2 w3 w4) (wPa g qpa qpae qpar qpau qpab w0 w1 w2 w3 w4) [1, 2, 3, 4, 5] _ _ := ⟨rfl, rfl, hP, hD, hS⟩
  refine goI0 hB (run_v C mf_Pa_coldAt qm_Ci_85 (c_Pa_coldAt l g qpa qpae qpar qpau qpab w0 w1 w2 w3 w4 p1 hs2) rfl rfl ⟨Nat.le_of_ble_eq_true rfl, Nat.le_of_ble_eq_true rfl⟩ ⟨Nat.le_of_ble_eq_true rfl, Nat.le_of_ble_eq_true rfl⟩ hB rfl rfl hl rfl rfl (Nat.le_of_ble_eq_true rfl) d_Ci_dial_11) (fun y3 ey3 H locs hP hS => ?_)
  have hz := lett_z hz ey3
  refine pfI C hP hD hS 0 14 fkCi rfl (by decide) rfl qf_Ci_73 rfl rfl rfl (Nat.le_of_ble_eq_true rfl) (ff := fun o => fCi qpa o cal) (sCi_14 _ _ _ _) d_Ci_dial_14 (fun ca_4 eca_4 H locs hP hD hS => ?_)
  have hP : va_P g.1 vwCl (wCi g qci qpa qpae qpar qpau qpab ca_4 cal w0 w1 w2 w3 w4) H := hP
  have hD : va_D (inW (wCi g qci qpa qpae qpar qpau qpab ca cal w0 w1 w2 w3 w4)) (wCi g qci qpa qpae qpar qpau qpab ca_4 cal w0 w1 w2 w3 w4) := hD
  have hz := lett_z hz eca_4
  refine lv_aload_n hx hb d_Ci_dial_17 rfl (lv_at hl 0 rfl) ?_
  have hB : SubW g (inW (wCi g qci qpa qpae qpar qpau qpab ca cal w0 w1 w2 w3 w4)) s (wCi g qci qpa qpae qpar qpau qpab ca_4 cal w0 w1 w2 w3 w4) _ (List.range _) _ _ := (subF hP hD hS)
  refine goVF hB (run_v C mf_Ci_survey qm_Ci_76 (c_Ci_survey l g qci qpa qpae qpar qpau qpab ca_4 cal w0 w1 w2 w3 w4) rfl rfl ⟨Nat.le_of_ble_eq_true rfl, Nat.le_of_ble_eq_true rfl⟩ ⟨Nat.le_of_ble_eq_true rfl, Nat.le_of_ble_eq_true rfl⟩ hB rfl rfl hl rfl rfl (Nat.le_of_ble_eq_true rfl) d_Ci_dial_18) (fun _ => rfl) (fun y5 ey5 H locs hP hD hS => ?_)
  have hP : va_P g.1 vwCl (wCi g qci qpa qpae qpar qpau qpab y5 cal w0 w1 w2 w3 w4) H := hP
  have hD : va_D (inW (wCi g qci qpa qpae qpar qpau qpab ca cal w0 w1 w2 w3 w4)) (wCi g qci qpa qpae qpar qpau qpab y5 cal w0 w1 w2 w3 w4) := hD
  have hz := lett_z hz ey5
  exact endV C hz hP hS d_Ci_dial_21
