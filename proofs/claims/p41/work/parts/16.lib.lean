/-! ===== reading and writing pictures ===== -/
theorem xll_0 (v0 v1 v2 v3 v4 v5 v6 v7 v8 v9 v10 v11 v12 v13 : Value) : ([v0, v1, v2, v3, v4, v5, v6, v7, v8, v9, v10, v11, v12, v13] : List Value).length = 14 := rfl
theorem xlg_0_0 (v0 v1 v2 v3 v4 v5 v6 v7 v8 v9 v10 v11 v12 v13 : Value) : ([v0, v1, v2, v3, v4, v5, v6, v7, v8, v9, v10, v11, v12, v13] : List Value).getD 0 .null = v0 := rfl
theorem xls_0_0 (v0 v1 v2 v3 v4 v5 v6 v7 v8 v9 v10 v11 v12 v13 w : Value) : ([v0, v1, v2, v3, v4, v5, v6, v7, v8, v9, v10, v11, v12, v13] : List Value).set 0 w = [w, v1, v2, v3, v4, v5, v6, v7, v8, v9, v10, v11, v12, v13] := rfl
theorem xlg_0_1 (v0 v1 v2 v3 v4 v5 v6 v7 v8 v9 v10 v11 v12 v13 : Value) : ([v0, v1, v2, v3, v4, v5, v6, v7, v8, v9, v10, v11, v12, v13] : List Value).getD 1 .null = v1 := rfl
theorem xls_0_1 (v0 v1 v2 v3 v4 v5 v6 v7 v8 v9 v10 v11 v12 v13 w : Value) : ([v0, v1, v2, v3, v4, v5, v6, v7, v8, v9, v10, v11, v12, v13] : List Value).set 1 w = [v0, w, v2, v3, v4, v5, v6, v7, v8, v9, v10, v11, v12, v13] := rfl
theorem xlg_0_2 (v0 v1 v2 v3 v4 v5 v6 v7 v8 v9 v10 v11 v12 v13 : Value) : ([v0, v1, v2, v3, v4, v5, v6, v7, v8, v9, v10, v11, v12, v13] : List Value).getD 2 .null = v2 := rfl
theorem xls_0_2 (v0 v1 v2 v3 v4 v5 v6 v7 v8 v9 v10 v11 v12 v13 w : Value) : ([v0, v1, v2, v3, v4, v5, v6, v7, v8, v9, v10, v11, v12, v13] : List Value).set 2 w = [v0, v1, w, v3, v4, v5, v6, v7, v8, v9, v10, v11, v12, v13] := rfl
theorem xlg_0_3 (v0 v1 v2 v3 v4 v5 v6 v7 v8 v9 v10 v11 v12 v13 : Value) : ([v0, v1, v2, v3, v4, v5, v6, v7, v8, v9, v10, v11, v12, v13] : List Value).getD 3 .null = v3 := rfl
theorem xls_0_3 (v0 v1 v2 v3 v4 v5 v6 v7 v8 v9 v10 v11 v12 v13 w : Value) : ([v0, v1, v2, v3, v4, v5, v6, v7, v8, v9, v10, v11, v12, v13] : List Value).set 3 w = [v0, v1, v2, w, v4, v5, v6, v7, v8, v9, v10, v11, v12, v13] := rfl
theorem xlg_0_4 (v0 v1 v2 v3 v4 v5 v6 v7 v8 v9 v10 v11 v12 v13 : Value) : ([v0, v1, v2, v3, v4, v5, v6, v7, v8, v9, v10, v11, v12, v13] : List Value).getD 4 .null = v4 := rfl
theorem xls_0_4 (v0 v1 v2 v3 v4 v5 v6 v7 v8 v9 v10 v11 v12 v13 w : Value) : ([v0, v1, v2, v3, v4, v5, v6, v7, v8, v9, v10, v11, v12, v13] : List Value).set 4 w = [v0, v1, v2, v3, w, v5, v6, v7, v8, v9, v10, v11, v12, v13] := rfl
theorem xlg_0_5 (v0 v1 v2 v3 v4 v5 v6 v7 v8 v9 v10 v11 v12 v13 : Value) : ([v0, v1, v2, v3, v4, v5, v6, v7, v8, v9, v10, v11, v12, v13] : List Value).getD 5 .null = v5 := rfl
theorem xls_0_5 (v0 v1 v2 v3 v4 v5 v6 v7 v8 v9 v10 v11 v12 v13 w : Value) : ([v0, v1, v2, v3, v4, v5, v6, v7, v8, v9, v10, v11, v12, v13] : List Value).set 5 w = [v0, v1, v2, v3, v4, w, v6, v7, v8, v9, v10, v11, v12, v13] := rfl
theorem xlg_0_6 (v0 v1 v2 v3 v4 v5 v6 v7 v8 v9 v10 v11 v12 v13 : Value) : ([v0, v1, v2, v3, v4, v5, v6, v7, v8, v9, v10, v11, v12, v13] : List Value).getD 6 .null = v6 := rfl
theorem xls_0_6 (v0 v1 v2 v3 v4 v5 v6 v7 v8 v9 v10 v11 v12 v13 w : Value) : ([v0, v1, v2, v3, v4, v5, v6, v7, v8, v9, v10, v11, v12, v13] : List Value).set 6 w = [v0, v1, v2, v3, v4, v5, w, v7, v8, v9, v10, v11, v12, v13] := rfl
theorem xlg_0_7 (v0 v1 v2 v3 v4 v5 v6 v7 v8 v9 v10 v11 v12 v13 : Value) : ([v0, v1, v2, v3, v4, v5, v6, v7, v8, v9, v10, v11, v12, v13] : List Value).getD 7 .null = v7 := rfl
theorem xls_0_7 (v0 v1 v2 v3 v4 v5 v6 v7 v8 v9 v10 v11 v12 v13 w : Value) : ([v0, v1, v2, v3, v4, v5, v6, v7, v8, v9, v10, v11, v12, v13] : List Value).set 7 w = [v0, v1, v2, v3, v4, v5, v6, w, v8, v9, v10, v11, v12, v13] := rfl
theorem xlg_0_8 (v0 v1 v2 v3 v4 v5 v6 v7 v8 v9 v10 v11 v12 v13 : Value) : ([v0, v1, v2, v3, v4, v5, v6, v7, v8, v9, v10, v11, v12, v13] : List Value).getD 8 .null = v8 := rfl
theorem xls_0_8 (v0 v1 v2 v3 v4 v5 v6 v7 v8 v9 v10 v11 v12 v13 w : Value) : ([v0, v1, v2, v3, v4, v5, v6, v7, v8, v9, v10, v11, v12, v13] : List Value).set 8 w = [v0, v1, v2, v3, v4, v5, v6, v7, w, v9, v10, v11, v12, v13] := rfl
theorem xlg_0_9 (v0 v1 v2 v3 v4 v5 v6 v7 v8 v9 v10 v11 v12 v13 : Value) : ([v0, v1, v2, v3, v4, v5, v6, v7, v8, v9, v10, v11, v12, v13] : List Value).getD 9 .null = v9 := rfl
theorem xls_0_9 (v0 v1 v2 v3 v4 v5 v6 v7 v8 v9 v10 v11 v12 v13 w : Value) : ([v0, v1, v2, v3, v4, v5, v6, v7, v8, v9, v10, v11, v12, v13] : List Value).set 9 w = [v0, v1, v2, v3, v4, v5, v6, v7, v8, w, v10, v11, v12, v13] := rfl
theorem xlg_0_10 (v0 v1 v2 v3 v4 v5 v6 v7 v8 v9 v10 v11 v12 v13 : Value) : ([v0, v1, v2, v3, v4, v5, v6, v7, v8, v9, v10, v11, v12, v13] : List Value).getD 10 .null = v10 := rfl
theorem xls_0_10 (v0 v1 v2 v3 v4 v5 v6 v7 v8 v9 v10 v11 v12 v13 w : Value) : ([v0, v1, v2, v3, v4, v5, v6, v7, v8, v9, v10, v11, v12, v13] : List Value).set 10 w = [v0, v1, v2, v3, v4, v5, v6, v7, v8, v9, w, v11, v12, v13] := rfl
theorem xlg_0_11 (v0 v1 v2 v3 v4 v5 v6 v7 v8 v9 v10 v11 v12 v13 : Value) : ([v0, v1, v2, v3, v4, v5, v6, v7, v8, v9, v10, v11, v12, v13] : List Value).getD 11 .null = v11 := rfl
theorem xls_0_11 (v0 v1 v2 v3 v4 v5 v6 v7 v8 v9 v10 v11 v12 v13 w : Value) : ([v0, v1, v2, v3, v4, v5, v6, v7, v8, v9, v10, v11, v12, v13] : List Value).set 11 w = [v0, v1, v2, v3, v4, v5, v6, v7, v8, v9, v10, w, v12, v13] := rfl
theorem xlg_0_12 (v0 v1 v2 v3 v4 v5 v6 v7 v8 v9 v10 v11 v12 v13 : Value) : ([v0, v1, v2, v3, v4, v5, v6, v7, v8, v9, v10, v11, v12, v13] : List Value).getD 12 .null = v12 := rfl
theorem xls_0_12 (v0 v1 v2 v3 v4 v5 v6 v7 v8 v9 v10 v11 v12 v13 w : Value) : ([v0, v1, v2, v3, v4, v5, v6, v7, v8, v9, v10, v11, v12, v13] : List Value).set 12 w = [v0, v1, v2, v3, v4, v5, v6, v7, v8, v9, v10, v11, w, v13] := rfl
theorem xlg_0_13 (v0 v1 v2 v3 v4 v5 v6 v7 v8 v9 v10 v11 v12 v13 : Value) : ([v0, v1, v2, v3, v4, v5, v6, v7, v8, v9, v10, v11, v12, v13] : List Value).getD 13 .null = v13 := rfl
theorem xls_0_13 (v0 v1 v2 v3 v4 v5 v6 v7 v8 v9 v10 v11 v12 v13 w : Value) : ([v0, v1, v2, v3, v4, v5, v6, v7, v8, v9, v10, v11, v12, v13] : List Value).set 13 w = [v0, v1, v2, v3, v4, v5, v6, v7, v8, v9, v10, v11, v12, w] := rfl
theorem xll_1 (v0 v1 v2 v3 v4 v5 v6 v7 v8 v9 v10 v11 v12 v13 v14 v15 v16 : Value) : ([v0, v1, v2, v3, v4, v5, v6, v7, v8, v9, v10, v11, v12, v13, v14, v15, v16] : List Value).length = 17 := rfl
theorem xlg_1_0 (v0 v1 v2 v3 v4 v5 v6 v7 v8 v9 v10 v11 v12 v13 v14 v15 v16 : Value) : ([v0, v1, v2, v3, v4, v5, v6, v7, v8, v9, v10, v11, v12, v13, v14, v15, v16] : List Value).getD 0 .null = v0 := rfl
theorem xls_1_0 (v0 v1 v2 v3 v4 v5 v6 v7 v8 v9 v10 v11 v12 v13 v14 v15 v16 w : Value) : ([v0, v1, v2, v3, v4, v5, v6, v7, v8, v9, v10, v11, v12, v13, v14, v15, v16] : List Value).set 0 w = [w, v1, v2, v3, v4, v5, v6, v7, v8, v9, v10, v11, v12, v13, v14, v15, v16] := rfl
theorem xlg_1_1 (v0 v1 v2 v3 v4 v5 v6 v7 v8 v9 v10 v11 v12 v13 v14 v15 v16 : Value) : ([v0, v1, v2, v3, v4, v5, v6, v7, v8, v9, v10, v11, v12, v13, v14, v15, v16] : List Value).getD 1 .null = v1 := rfl
theorem xls_1_1 (v0 v1 v2 v3 v4 v5 v6 v7 v8 v9 v10 v11 v12 v13 v14 v15 v16 w : Value) : ([v0, v1, v2, v3, v4, v5, v6, v7, v8, v9, v10, v11, v12, v13, v14, v15, v16] : List Value).set 1 w = [v0, w, v2, v3, v4, v5, v6, v7, v8, v9, v10, v11, v12, v13, v14, v15, v16] := rfl
theorem xlg_1_2 (v0 v1 v2 v3 v4 v5 v6 v7 v8 v9 v10 v11 v12 v13 v14 v15 v16 : Value) : ([v0, v1, v2, v3, v4, v5, v6, v7, v8, v9, v10, v11, v12, v13, v14, v15, v16] : List Value).getD 2 .null = v2 := rfl
theorem xls_1_2 (v0 v1 v2 v3 v4 v5 v6 v7 v8 v9 v10 v11 v12 v13 v14 v15 v16 w : Value) : ([v0, v1, v2, v3, v4, v5, v6, v7, v8, v9, v10, v11, v12, v13, v14, v15, v16] : List Value).set 2 w = [v0, v1, w, v3, v4, v5, v6, v7, v8, v9, v10, v11, v12, v13, v14, v15, v16] := rfl
theorem xlg_1_3 (v0 v1 v2 v3 v4 v5 v6 v7 v8 v9 v10 v11 v12 v13 v14 v15 v16 : Value) : ([v0, v1, v2, v3, v4, v5, v6, v7, v8, v9, v10, v11, v12, v13, v14, v15, v16] : List Value).getD 3 .null = v3 := rfl
theorem xls_1_3 (v0 v1 v2 v3 v4 v5 v6 v7 v8 v9 v10 v11 v12 v13 v14 v15 v16 w : Value) : ([v0, v1, v2, v3, v4, v5, v6, v7, v8, v9, v10, v11, v12, v13, v14, v15, v16] : List Value).set 3 w = [v0, v1, v2, w, v4, v5, v6, v7, v8, v9, v10, v11, v12, v13, v14, v15, v16] := rfl
theorem xlg_1_4 (v0 v1 v2 v3 v4 v5 v6 v7 v8 v9 v10 v11 v12 v13 v14 v15 v16 : Value) : ([v0, v1, v2, v3, v4, v5, v6, v7, v8, v9, v10, v11, v12, v13, v14, v15, v16] : List Value).getD 4 .null = v4 := rfl
theorem xls_1_4 (v0 v1 v2 v3 v4 v5 v6 v7 v8 v9 v10 v11 v12 v13 v14 v15 v16 w : Value) : ([v0, v1, v2, v3, v4, v5, v6, v7, v8, v9, v10, v11, v12, v13, v14, v15, v16] : List Value).set 4 w = [v0, v1, v2, v3, w, v5, v6, v7, v8, v9, v10, v11, v12, v13, v14, v15, v16] := rfl
theorem xlg_1_5 (v0 v1 v2 v3 v4 v5 v6 v7 v8 v9 v10 v11 v12 v13 v14 v15 v16 : Value) : ([v0, v1, v2, v3, v4, v5, v6, v7, v8, v9, v10, v11, v12, v13, v14, v15, v16] : List Value).getD 5 .null = v5 := rfl
theorem xls_1_5 (v0 v1 v2 v3 v4 v5 v6 v7 v8 v9 v10 v11 v12 v13 v14 v15 v16 w : Value) : ([v0, v1, v2, v3, v4, v5, v6, v7, v8, v9, v10, v11, v12, v13, v14, v15, v16] : List Value).set 5 w = [v0, v1, v2, v3, v4, w, v6, v7, v8, v9, v10, v11, v12, v13, v14, v15, v16] := rfl
theorem xlg_1_6 (v0 v1 v2 v3 v4 v5 v6 v7 v8 v9 v10 v11 v12 v13 v14 v15 v16 : Value) : ([v0, v1, v2, v3, v4, v5, v6, v7, v8, v9, v10, v11, v12, v13, v14, v15, v16] : List Value).getD 6 .null = v6 := rfl
theorem xls_1_6 (v0 v1 v2 v3 v4 v5 v6 v7 v8 v9 v10 v11 v12 v13 v14 v15 v16 w : Value) : ([v0, v1, v2, v3, v4, v5, v6, v7, v8, v9, v10, v11, v12, v13, v14, v15, v16] : List Value).set 6 w = [v0, v1, v2, v3, v4, v5, w, v7, v8, v9, v10, v11, v12, v13, v14, v15, v16] := rfl
theorem xlg_1_7 (v0 v1 v2 v3 v4 v5 v6 v7 v8 v9 v10 v11 v12 v13 v14 v15 v16 : Value) : ([v0, v1, v2, v3, v4, v5, v6, v7, v8, v9, v10, v11, v12, v13, v14, v15, v16] : List Value).getD 7 .null = v7 := rfl
theorem xls_1_7 (v0 v1 v2 v3 v4 v5 v6 v7 v8 v9 v10 v11 v12 v13 v14 v15 v16 w : Value) : ([v0, v1, v2, v3, v4, v5, v6, v7, v8, v9, v10, v11, v12, v13, v14, v15, v16] : List Value).set 7 w = [v0, v1, v2, v3, v4, v5, v6, w, v8, v9, v10, v11, v12, v13, v14, v15, v16] := rfl
theorem xlg_1_8 (v0 v1 v2 v3 v4 v5 v6 v7 v8 v9 v10 v11 v12 v13 v14 v15 v16 : Value) : ([v0, v1, v2, v3, v4, v5, v6, v7, v8, v9, v10, v11, v12, v13, v14, v15, v16] : List Value).getD 8 .null = v8 := rfl
theorem xls_1_8 (v0 v1 v2 v3 v4 v5 v6 v7 v8 v9 v10 v11 v12 v13 v14 v15 v16 w : Value) : ([v0, v1, v2, v3, v4, v5, v6, v7, v8, v9, v10, v11, v12, v13, v14, v15, v16] : List Value).set 8 w = [v0, v1, v2, v3, v4, v5, v6, v7, w, v9, v10, v11, v12, v13, v14, v15, v16] := rfl
theorem xlg_1_9 (v0 v1 v2 v3 v4 v5 v6 v7 v8 v9 v10 v11 v12 v13 v14 v15 v16 : Value) : ([v0, v1, v2, v3, v4, v5, v6, v7, v8, v9, v10, v11, v12, v13, v14, v15, v16] : List Value).getD 9 .null = v9 := rfl
theorem xls_1_9 (v0 v1 v2 v3 v4 v5 v6 v7 v8 v9 v10 v11 v12 v13 v14 v15 v16 w : Value) : ([v0, v1, v2, v3, v4, v5, v6, v7, v8, v9, v10, v11, v12, v13, v14, v15, v16] : List Value).set 9 w = [v0, v1, v2, v3, v4, v5, v6, v7, v8, w, v10, v11, v12, v13, v14, v15, v16] := rfl
theorem xlg_1_10 (v0 v1 v2 v3 v4 v5 v6 v7 v8 v9 v10 v11 v12 v13 v14 v15 v16 : Value) : ([v0, v1, v2, v3, v4, v5, v6, v7, v8, v9, v10, v11, v12, v13, v14, v15, v16] : List Value).getD 10 .null = v10 := rfl
theorem xls_1_10 (v0 v1 v2 v3 v4 v5 v6 v7 v8 v9 v10 v11 v12 v13 v14 v15 v16 w : Value) : ([v0, v1, v2, v3, v4, v5, v6, v7, v8, v9, v10, v11, v12, v13, v14, v15, v16] : List Value).set 10 w = [v0, v1, v2, v3, v4, v5, v6, v7, v8, v9, w, v11, v12, v13, v14, v15, v16] := rfl
theorem xlg_1_11 (v0 v1 v2 v3 v4 v5 v6 v7 v8 v9 v10 v11 v12 v13 v14 v15 v16 : Value) : ([v0, v1, v2, v3, v4, v5, v6, v7, v8, v9, v10, v11, v12, v13, v14, v15, v16] : List Value).getD 11 .null = v11 := rfl
theorem xls_1_11 (v0 v1 v2 v3 v4 v5 v6 v7 v8 v9 v10 v11 v12 v13 v14 v15 v16 w : Value) : ([v0, v1, v2, v3, v4, v5, v6, v7, v8, v9, v10, v11, v12, v13, v14, v15, v16] : List Value).set 11 w = [v0, v1, v2, v3, v4, v5, v6, v7, v8, v9, v10, w, v12, v13, v14, v15, v16] := rfl
theorem xlg_1_12 (v0 v1 v2 v3 v4 v5 v6 v7 v8 v9 v10 v11 v12 v13 v14 v15 v16 : Value) : ([v0, v1, v2, v3, v4, v5, v6, v7, v8, v9, v10, v11, v12, v13, v14, v15, v16] : List Value).getD 12 .null = v12 := rfl
theorem xls_1_12 (v0 v1 v2 v3 v4 v5 v6 v7 v8 v9 v10 v11 v12 v13 v14 v15 v16 w : Value) : ([v0, v1, v2, v3, v4, v5, v6, v7, v8, v9, v10, v11, v12, v13, v14, v15, v16] : List Value).set 12 w = [v0, v1, v2, v3, v4, v5, v6, v7, v8, v9, v10, v11, w, v13, v14, v15, v16] := rfl
theorem xlg_1_13 (v0 v1 v2 v3 v4 v5 v6 v7 v8 v9 v10 v11 v12 v13 v14 v15 v16 : Value) : ([v0, v1, v2, v3, v4, v5, v6, v7, v8, v9, v10, v11, v12, v13, v14, v15, v16] : List Value).getD 13 .null = v13 := rfl
theorem xls_1_13 (v0 v1 v2 v3 v4 v5 v6 v7 v8 v9 v10 v11 v12 v13 v14 v15 v16 w : Value) : ([v0, v1, v2, v3, v4, v5, v6, v7, v8, v9, v10, v11, v12, v13, v14, v15, v16] : List Value).set 13 w = [v0, v1, v2, v3, v4, v5, v6, v7, v8, v9, v10, v11, v12, w, v14, v15, v16] := rfl
theorem xlg_1_14 (v0 v1 v2 v3 v4 v5 v6 v7 v8 v9 v10 v11 v12 v13 v14 v15 v16 : Value) : ([v0, v1, v2, v3, v4, v5, v6, v7, v8, v9, v10, v11, v12, v13, v14, v15, v16] : List Value).getD 14 .null = v14 := rfl
theorem xls_1_14 (v0 v1 v2 v3 v4 v5 v6 v7 v8 v9 v10 v11 v12 v13 v14 v15 v16 w : Value) : ([v0, v1, v2, v3, v4, v5, v6, v7, v8, v9, v10, v11, v12, v13, v14, v15, v16] : List Value).set 14 w = [v0, v1, v2, v3, v4, v5, v6, v7, v8, v9, v10, v11, v12, v13, w, v15, v16] := rfl
theorem xlg_1_15 (v0 v1 v2 v3 v4 v5 v6 v7 v8 v9 v10 v11 v12 v13 v14 v15 v16 : Value) : ([v0, v1, v2, v3, v4, v5, v6, v7, v8, v9, v10, v11, v12, v13, v14, v15, v16] : List Value).getD 15 .null = v15 := rfl
theorem xls_1_15 (v0 v1 v2 v3 v4 v5 v6 v7 v8 v9 v10 v11 v12 v13 v14 v15 v16 w : Value) : ([v0, v1, v2, v3, v4, v5, v6, v7, v8, v9, v10, v11, v12, v13, v14, v15, v16] : List Value).set 15 w = [v0, v1, v2, v3, v4, v5, v6, v7, v8, v9, v10, v11, v12, v13, v14, w, v16] := rfl
theorem xlg_1_16 (v0 v1 v2 v3 v4 v5 v6 v7 v8 v9 v10 v11 v12 v13 v14 v15 v16 : Value) : ([v0, v1, v2, v3, v4, v5, v6, v7, v8, v9, v10, v11, v12, v13, v14, v15, v16] : List Value).getD 16 .null = v16 := rfl
theorem xls_1_16 (v0 v1 v2 v3 v4 v5 v6 v7 v8 v9 v10 v11 v12 v13 v14 v15 v16 w : Value) : ([v0, v1, v2, v3, v4, v5, v6, v7, v8, v9, v10, v11, v12, v13, v14, v15, v16] : List Value).set 16 w = [v0, v1, v2, v3, v4, v5, v6, v7, v8, v9, v10, v11, v12, v13, v14, v15, w] := rfl
theorem xll_2 (v0 v1 v2 v3 v4 v5 : Value) : ([v0, v1, v2, v3, v4, v5] : List Value).length = 6 := rfl
theorem xlg_2_0 (v0 v1 v2 v3 v4 v5 : Value) : ([v0, v1, v2, v3, v4, v5] : List Value).getD 0 .null = v0 := rfl
theorem xls_2_0 (v0 v1 v2 v3 v4 v5 w : Value) : ([v0, v1, v2, v3, v4, v5] : List Value).set 0 w = [w, v1, v2, v3, v4, v5] := rfl
theorem xlg_2_1 (v0 v1 v2 v3 v4 v5 : Value) : ([v0, v1, v2, v3, v4, v5] : List Value).getD 1 .null = v1 := rfl
theorem xls_2_1 (v0 v1 v2 v3 v4 v5 w : Value) : ([v0, v1, v2, v3, v4, v5] : List Value).set 1 w = [v0, w, v2, v3, v4, v5] := rfl
theorem xlg_2_2 (v0 v1 v2 v3 v4 v5 : Value) : ([v0, v1, v2, v3, v4, v5] : List Value).getD 2 .null = v2 := rfl
theorem xls_2_2 (v0 v1 v2 v3 v4 v5 w : Value) : ([v0, v1, v2, v3, v4, v5] : List Value).set 2 w = [v0, v1, w, v3, v4, v5] := rfl
theorem xlg_2_3 (v0 v1 v2 v3 v4 v5 : Value) : ([v0, v1, v2, v3, v4, v5] : List Value).getD 3 .null = v3 := rfl
theorem xls_2_3 (v0 v1 v2 v3 v4 v5 w : Value) : ([v0, v1, v2, v3, v4, v5] : List Value).set 3 w = [v0, v1, v2, w, v4, v5] := rfl
theorem xlg_2_4 (v0 v1 v2 v3 v4 v5 : Value) : ([v0, v1, v2, v3, v4, v5] : List Value).getD 4 .null = v4 := rfl
theorem xls_2_4 (v0 v1 v2 v3 v4 v5 w : Value) : ([v0, v1, v2, v3, v4, v5] : List Value).set 4 w = [v0, v1, v2, v3, w, v5] := rfl
theorem xlg_2_5 (v0 v1 v2 v3 v4 v5 : Value) : ([v0, v1, v2, v3, v4, v5] : List Value).getD 5 .null = v5 := rfl
theorem xls_2_5 (v0 v1 v2 v3 v4 v5 w : Value) : ([v0, v1, v2, v3, v4, v5] : List Value).set 5 w = [v0, v1, v2, v3, v4, w] := rfl
theorem xll_3 (v0 : Value) : ([v0] : List Value).length = 1 := rfl
theorem xlg_3_0 (v0 : Value) : ([v0] : List Value).getD 0 .null = v0 := rfl
theorem xls_3_0 (v0 w : Value) : ([v0] : List Value).set 0 w = [w] := rfl
theorem xll_4 (v0 v1 v2 : Value) : ([v0, v1, v2] : List Value).length = 3 := rfl
theorem xlg_4_0 (v0 v1 v2 : Value) : ([v0, v1, v2] : List Value).getD 0 .null = v0 := rfl
theorem xls_4_0 (v0 v1 v2 w : Value) : ([v0, v1, v2] : List Value).set 0 w = [w, v1, v2] := rfl
theorem xlg_4_1 (v0 v1 v2 : Value) : ([v0, v1, v2] : List Value).getD 1 .null = v1 := rfl
theorem xls_4_1 (v0 v1 v2 w : Value) : ([v0, v1, v2] : List Value).set 1 w = [v0, w, v2] := rfl
theorem xlg_4_2 (v0 v1 v2 : Value) : ([v0, v1, v2] : List Value).getD 2 .null = v2 := rfl
theorem xls_4_2 (v0 v1 v2 w : Value) : ([v0, v1, v2] : List Value).set 2 w = [v0, v1, w] := rfl
theorem xll_5 (v0 v1 v2 : Value) : ([v0, v1, v2] : List Value).length = 3 := rfl
theorem xlg_5_0 (v0 v1 v2 : Value) : ([v0, v1, v2] : List Value).getD 0 .null = v0 := rfl
theorem xls_5_0 (v0 v1 v2 w : Value) : ([v0, v1, v2] : List Value).set 0 w = [w, v1, v2] := rfl
theorem xlg_5_1 (v0 v1 v2 : Value) : ([v0, v1, v2] : List Value).getD 1 .null = v1 := rfl
theorem xls_5_1 (v0 v1 v2 w : Value) : ([v0, v1, v2] : List Value).set 1 w = [v0, w, v2] := rfl
theorem xlg_5_2 (v0 v1 v2 : Value) : ([v0, v1, v2] : List Value).getD 2 .null = v2 := rfl
theorem xls_5_2 (v0 v1 v2 w : Value) : ([v0, v1, v2] : List Value).set 2 w = [v0, v1, w] := rfl
theorem xll_6 (v0 v1 : Value) : ([v0, v1] : List Value).length = 2 := rfl
theorem xlg_6_0 (v0 v1 : Value) : ([v0, v1] : List Value).getD 0 .null = v0 := rfl
theorem xls_6_0 (v0 v1 w : Value) : ([v0, v1] : List Value).set 0 w = [w, v1] := rfl
theorem xlg_6_1 (v0 v1 : Value) : ([v0, v1] : List Value).getD 1 .null = v1 := rfl
theorem xls_6_1 (v0 v1 w : Value) : ([v0, v1] : List Value).set 1 w = [v0, w] := rfl
theorem xll_7 (v0 v1 v2 v3 v4 v5 v6 : Value) : ([v0, v1, v2, v3, v4, v5, v6] : List Value).length = 7 := rfl
theorem xlg_7_0 (v0 v1 v2 v3 v4 v5 v6 : Value) : ([v0, v1, v2, v3, v4, v5, v6] : List Value).getD 0 .null = v0 := rfl
theorem xls_7_0 (v0 v1 v2 v3 v4 v5 v6 w : Value) : ([v0, v1, v2, v3, v4, v5, v6] : List Value).set 0 w = [w, v1, v2, v3, v4, v5, v6] := rfl
theorem xlg_7_1 (v0 v1 v2 v3 v4 v5 v6 : Value) : ([v0, v1, v2, v3, v4, v5, v6] : List Value).getD 1 .null = v1 := rfl
theorem xls_7_1 (v0 v1 v2 v3 v4 v5 v6 w : Value) : ([v0, v1, v2, v3, v4, v5, v6] : List Value).set 1 w = [v0, w, v2, v3, v4, v5, v6] := rfl
theorem xlg_7_2 (v0 v1 v2 v3 v4 v5 v6 : Value) : ([v0, v1, v2, v3, v4, v5, v6] : List Value).getD 2 .null = v2 := rfl
theorem xls_7_2 (v0 v1 v2 v3 v4 v5 v6 w : Value) : ([v0, v1, v2, v3, v4, v5, v6] : List Value).set 2 w = [v0, v1, w, v3, v4, v5, v6] := rfl
theorem xlg_7_3 (v0 v1 v2 v3 v4 v5 v6 : Value) : ([v0, v1, v2, v3, v4, v5, v6] : List Value).getD 3 .null = v3 := rfl
theorem xls_7_3 (v0 v1 v2 v3 v4 v5 v6 w : Value) : ([v0, v1, v2, v3, v4, v5, v6] : List Value).set 3 w = [v0, v1, v2, w, v4, v5, v6] := rfl
theorem xlg_7_4 (v0 v1 v2 v3 v4 v5 v6 : Value) : ([v0, v1, v2, v3, v4, v5, v6] : List Value).getD 4 .null = v4 := rfl
theorem xls_7_4 (v0 v1 v2 v3 v4 v5 v6 w : Value) : ([v0, v1, v2, v3, v4, v5, v6] : List Value).set 4 w = [v0, v1, v2, v3, w, v5, v6] := rfl
theorem xlg_7_5 (v0 v1 v2 v3 v4 v5 v6 : Value) : ([v0, v1, v2, v3, v4, v5, v6] : List Value).getD 5 .null = v5 := rfl
theorem xls_7_5 (v0 v1 v2 v3 v4 v5 v6 w : Value) : ([v0, v1, v2, v3, v4, v5, v6] : List Value).set 5 w = [v0, v1, v2, v3, v4, w, v6] := rfl
theorem xlg_7_6 (v0 v1 v2 v3 v4 v5 v6 : Value) : ([v0, v1, v2, v3, v4, v5, v6] : List Value).getD 6 .null = v6 := rfl
theorem xls_7_6 (v0 v1 v2 v3 v4 v5 v6 w : Value) : ([v0, v1, v2, v3, v4, v5, v6] : List Value).set 6 w = [v0, v1, v2, v3, v4, v5, w] := rfl
theorem xll_8 (v0 v1 v2 v3 v4 v5 v6 : Value) : ([v0, v1, v2, v3, v4, v5, v6] : List Value).length = 7 := rfl
theorem xlg_8_0 (v0 v1 v2 v3 v4 v5 v6 : Value) : ([v0, v1, v2, v3, v4, v5, v6] : List Value).getD 0 .null = v0 := rfl
theorem xls_8_0 (v0 v1 v2 v3 v4 v5 v6 w : Value) : ([v0, v1, v2, v3, v4, v5, v6] : List Value).set 0 w = [w, v1, v2, v3, v4, v5, v6] := rfl
theorem xlg_8_1 (v0 v1 v2 v3 v4 v5 v6 : Value) : ([v0, v1, v2, v3, v4, v5, v6] : List Value).getD 1 .null = v1 := rfl
theorem xls_8_1 (v0 v1 v2 v3 v4 v5 v6 w : Value) : ([v0, v1, v2, v3, v4, v5, v6] : List Value).set 1 w = [v0, w, v2, v3, v4, v5, v6] := rfl
theorem xlg_8_2 (v0 v1 v2 v3 v4 v5 v6 : Value) : ([v0, v1, v2, v3, v4, v5, v6] : List Value).getD 2 .null = v2 := rfl
theorem xls_8_2 (v0 v1 v2 v3 v4 v5 v6 w : Value) : ([v0, v1, v2, v3, v4, v5, v6] : List Value).set 2 w = [v0, v1, w, v3, v4, v5, v6] := rfl
theorem xlg_8_3 (v0 v1 v2 v3 v4 v5 v6 : Value) : ([v0, v1, v2, v3, v4, v5, v6] : List Value).getD 3 .null = v3 := rfl
theorem xls_8_3 (v0 v1 v2 v3 v4 v5 v6 w : Value) : ([v0, v1, v2, v3, v4, v5, v6] : List Value).set 3 w = [v0, v1, v2, w, v4, v5, v6] := rfl
theorem xlg_8_4 (v0 v1 v2 v3 v4 v5 v6 : Value) : ([v0, v1, v2, v3, v4, v5, v6] : List Value).getD 4 .null = v4 := rfl
theorem xls_8_4 (v0 v1 v2 v3 v4 v5 v6 w : Value) : ([v0, v1, v2, v3, v4, v5, v6] : List Value).set 4 w = [v0, v1, v2, v3, w, v5, v6] := rfl
theorem xlg_8_5 (v0 v1 v2 v3 v4 v5 v6 : Value) : ([v0, v1, v2, v3, v4, v5, v6] : List Value).getD 5 .null = v5 := rfl
theorem xls_8_5 (v0 v1 v2 v3 v4 v5 v6 w : Value) : ([v0, v1, v2, v3, v4, v5, v6] : List Value).set 5 w = [v0, v1, v2, v3, v4, w, v6] := rfl
theorem xlg_8_6 (v0 v1 v2 v3 v4 v5 v6 : Value) : ([v0, v1, v2, v3, v4, v5, v6] : List Value).getD 6 .null = v6 := rfl
theorem xls_8_6 (v0 v1 v2 v3 v4 v5 v6 w : Value) : ([v0, v1, v2, v3, v4, v5, v6] : List Value).set 6 w = [v0, v1, v2, v3, v4, v5, w] := rfl
theorem xll_9 (v0 v1 v2 : Value) : ([v0, v1, v2] : List Value).length = 3 := rfl
theorem xlg_9_0 (v0 v1 v2 : Value) : ([v0, v1, v2] : List Value).getD 0 .null = v0 := rfl
theorem xls_9_0 (v0 v1 v2 w : Value) : ([v0, v1, v2] : List Value).set 0 w = [w, v1, v2] := rfl
theorem xlg_9_1 (v0 v1 v2 : Value) : ([v0, v1, v2] : List Value).getD 1 .null = v1 := rfl
theorem xls_9_1 (v0 v1 v2 w : Value) : ([v0, v1, v2] : List Value).set 1 w = [v0, w, v2] := rfl
theorem xlg_9_2 (v0 v1 v2 : Value) : ([v0, v1, v2] : List Value).getD 2 .null = v2 := rfl
theorem xls_9_2 (v0 v1 v2 w : Value) : ([v0, v1, v2] : List Value).set 2 w = [v0, v1, w] := rfl
theorem xll_10 (v0 v1 v2 v3 v4 v5 v6 v7 v8 : Value) : ([v0, v1, v2, v3, v4, v5, v6, v7, v8] : List Value).length = 9 := rfl
theorem xlg_10_0 (v0 v1 v2 v3 v4 v5 v6 v7 v8 : Value) : ([v0, v1, v2, v3, v4, v5, v6, v7, v8] : List Value).getD 0 .null = v0 := rfl
theorem xls_10_0 (v0 v1 v2 v3 v4 v5 v6 v7 v8 w : Value) : ([v0, v1, v2, v3, v4, v5, v6, v7, v8] : List Value).set 0 w = [w, v1, v2, v3, v4, v5, v6, v7, v8] := rfl
theorem xlg_10_1 (v0 v1 v2 v3 v4 v5 v6 v7 v8 : Value) : ([v0, v1, v2, v3, v4, v5, v6, v7, v8] : List Value).getD 1 .null = v1 := rfl
theorem xls_10_1 (v0 v1 v2 v3 v4 v5 v6 v7 v8 w : Value) : ([v0, v1, v2, v3, v4, v5, v6, v7, v8] : List Value).set 1 w = [v0, w, v2, v3, v4, v5, v6, v7, v8] := rfl
theorem xlg_10_2 (v0 v1 v2 v3 v4 v5 v6 v7 v8 : Value) : ([v0, v1, v2, v3, v4, v5, v6, v7, v8] : List Value).getD 2 .null = v2 := rfl
theorem xls_10_2 (v0 v1 v2 v3 v4 v5 v6 v7 v8 w : Value) : ([v0, v1, v2, v3, v4, v5, v6, v7, v8] : List Value).set 2 w = [v0, v1, w, v3, v4, v5, v6, v7, v8] := rfl
theorem xlg_10_3 (v0 v1 v2 v3 v4 v5 v6 v7 v8 : Value) : ([v0, v1, v2, v3, v4, v5, v6, v7, v8] : List Value).getD 3 .null = v3 := rfl
theorem xls_10_3 (v0 v1 v2 v3 v4 v5 v6 v7 v8 w : Value) : ([v0, v1, v2, v3, v4, v5, v6, v7, v8] : List Value).set 3 w = [v0, v1, v2, w, v4, v5, v6, v7, v8] := rfl
theorem xlg_10_4 (v0 v1 v2 v3 v4 v5 v6 v7 v8 : Value) : ([v0, v1, v2, v3, v4, v5, v6, v7, v8] : List Value).getD 4 .null = v4 := rfl
theorem xls_10_4 (v0 v1 v2 v3 v4 v5 v6 v7 v8 w : Value) : ([v0, v1, v2, v3, v4, v5, v6, v7, v8] : List Value).set 4 w = [v0, v1, v2, v3, w, v5, v6, v7, v8] := rfl
theorem xlg_10_5 (v0 v1 v2 v3 v4 v5 v6 v7 v8 : Value) : ([v0, v1, v2, v3, v4, v5, v6, v7, v8] : List Value).getD 5 .null = v5 := rfl
theorem xls_10_5 (v0 v1 v2 v3 v4 v5 v6 v7 v8 w : Value) : ([v0, v1, v2, v3, v4, v5, v6, v7, v8] : List Value).set 5 w = [v0, v1, v2, v3, v4, w, v6, v7, v8] := rfl
theorem xlg_10_6 (v0 v1 v2 v3 v4 v5 v6 v7 v8 : Value) : ([v0, v1, v2, v3, v4, v5, v6, v7, v8] : List Value).getD 6 .null = v6 := rfl
theorem xls_10_6 (v0 v1 v2 v3 v4 v5 v6 v7 v8 w : Value) : ([v0, v1, v2, v3, v4, v5, v6, v7, v8] : List Value).set 6 w = [v0, v1, v2, v3, v4, v5, w, v7, v8] := rfl
theorem xlg_10_7 (v0 v1 v2 v3 v4 v5 v6 v7 v8 : Value) : ([v0, v1, v2, v3, v4, v5, v6, v7, v8] : List Value).getD 7 .null = v7 := rfl
theorem xls_10_7 (v0 v1 v2 v3 v4 v5 v6 v7 v8 w : Value) : ([v0, v1, v2, v3, v4, v5, v6, v7, v8] : List Value).set 7 w = [v0, v1, v2, v3, v4, v5, v6, w, v8] := rfl
theorem xlg_10_8 (v0 v1 v2 v3 v4 v5 v6 v7 v8 : Value) : ([v0, v1, v2, v3, v4, v5, v6, v7, v8] : List Value).getD 8 .null = v8 := rfl
theorem xls_10_8 (v0 v1 v2 v3 v4 v5 v6 v7 v8 w : Value) : ([v0, v1, v2, v3, v4, v5, v6, v7, v8] : List Value).set 8 w = [v0, v1, v2, v3, v4, v5, v6, v7, w] := rfl
theorem xll_11 (v0 v1 v2 v3 : Value) : ([v0, v1, v2, v3] : List Value).length = 4 := rfl
theorem xlg_11_0 (v0 v1 v2 v3 : Value) : ([v0, v1, v2, v3] : List Value).getD 0 .null = v0 := rfl
theorem xls_11_0 (v0 v1 v2 v3 w : Value) : ([v0, v1, v2, v3] : List Value).set 0 w = [w, v1, v2, v3] := rfl
theorem xlg_11_1 (v0 v1 v2 v3 : Value) : ([v0, v1, v2, v3] : List Value).getD 1 .null = v1 := rfl
theorem xls_11_1 (v0 v1 v2 v3 w : Value) : ([v0, v1, v2, v3] : List Value).set 1 w = [v0, w, v2, v3] := rfl
theorem xlg_11_2 (v0 v1 v2 v3 : Value) : ([v0, v1, v2, v3] : List Value).getD 2 .null = v2 := rfl
theorem xls_11_2 (v0 v1 v2 v3 w : Value) : ([v0, v1, v2, v3] : List Value).set 2 w = [v0, v1, w, v3] := rfl
theorem xlg_11_3 (v0 v1 v2 v3 : Value) : ([v0, v1, v2, v3] : List Value).getD 3 .null = v3 := rfl
theorem xls_11_3 (v0 v1 v2 v3 w : Value) : ([v0, v1, v2, v3] : List Value).set 3 w = [v0, v1, v2, w] := rfl
theorem xll_12 (v0 v1 v2 v3 : Value) : ([v0, v1, v2, v3] : List Value).length = 4 := rfl
theorem xlg_12_0 (v0 v1 v2 v3 : Value) : ([v0, v1, v2, v3] : List Value).getD 0 .null = v0 := rfl
theorem xls_12_0 (v0 v1 v2 v3 w : Value) : ([v0, v1, v2, v3] : List Value).set 0 w = [w, v1, v2, v3] := rfl
theorem xlg_12_1 (v0 v1 v2 v3 : Value) : ([v0, v1, v2, v3] : List Value).getD 1 .null = v1 := rfl
theorem xls_12_1 (v0 v1 v2 v3 w : Value) : ([v0, v1, v2, v3] : List Value).set 1 w = [v0, w, v2, v3] := rfl
theorem xlg_12_2 (v0 v1 v2 v3 : Value) : ([v0, v1, v2, v3] : List Value).getD 2 .null = v2 := rfl
theorem xls_12_2 (v0 v1 v2 v3 w : Value) : ([v0, v1, v2, v3] : List Value).set 2 w = [v0, v1, w, v3] := rfl
theorem xlg_12_3 (v0 v1 v2 v3 : Value) : ([v0, v1, v2, v3] : List Value).getD 3 .null = v3 := rfl
theorem xls_12_3 (v0 v1 v2 v3 w : Value) : ([v0, v1, v2, v3] : List Value).set 3 w = [v0, v1, v2, w] := rfl
theorem xset_g {H : xH} {a b : Nat} {c : xC} : (xset H a c).1 b = if b = a then c else H.1 b := rfl
theorem xset_s {H : xH} {a : Nat} {c : xC} (b : Nat) (h : b = a) : (xset H a c).1 b = c := by rw [xset_g, if_pos h]
theorem xset_o {H : xH} {a : Nat} {c : xC} (b : Nat) (h : ¬ b = a) : (xset H a c).1 b = H.1 b := by rw [xset_g, if_neg h]
theorem xset_2 {H : xH} {a : Nat} {c : xC} : (xset H a c).2 = H.2 := rfl
theorem xnew_g {H : xH} {k b : Nat} {c : xC} : (xnew H c k).1 b = if b = H.2.1 then c else H.1 b := rfl
theorem xnew_n {H : xH} {k : Nat} {c : xC} : (xnew H c k).2.1 = H.2.1 + 1 := rfl
theorem xnew_k {H : xH} {k : Nat} {c : xC} : (xnew H c k).2.2 = H.2.2 + k := rfl
theorem xf_of {H : xH} {a ci : Nat} {fs : List Value} (h : H.1 a = .inr (ci, fs)) : xfls H a ci = fs := by unfold xfls; rw [h]; exact if_pos rfl
theorem xc_of {H : xH} {a ci : Nat} {fs : List Value} (h : H.1 a = .inr (ci, fs)) : xcl H a = ci := by unfold xcl; rw [h]
theorem xI_of {H : xH} {a n : Nat} {f : Nat → Int32} (h : H.1 a = xarI n f) : xlenI H a = n ∧ xfnI H a = f := by unfold xlenI xfnI; rw [h]; exact ⟨rfl, rfl⟩
theorem xIl_of {H : xH} {a n : Nat} {f : Nat → Int32} (h : H.1 a = xarI n f) : xlenI H a = n := (xI_of h).1
theorem xIf_of {H : xH} {a n : Nat} {f : Nat → Int32} (h : H.1 a = xarI n f) : xfnI H a = f := (xI_of h).2
theorem xJl_of {H : xH} {a n : Nat} {f : Nat → Int64} (h : H.1 a = xarJ n f) : xlenJ H a = n := by unfold xlenJ; rw [h]
theorem xJf_of {H : xH} {a n : Nat} {f : Nat → Int64} (h : H.1 a = xarJ n f) : xfnJ H a = f := by unfold xfnJ; rw [h]
theorem xBl_of {H : xH} {a n : Nat} {f : Nat → Int32} (h : H.1 a = xarB n f) : xlenB H a = n := by unfold xlenB; rw [h]
theorem xBf_of {H : xH} {a n : Nat} {f : Nat → Int32} (h : H.1 a = xarB n f) : xfnB H a = f := by unfold xfnB; rw [h]
theorem xnb_0 : (narrow .boolean (.int 0) = .int 0) = True := eq_true rfl
theorem xnb_1 : (narrow .boolean (.int 1) = .int 1) = True := eq_true rfl
theorem xnb_i (c : Prop) [Decidable c] : (narrow .boolean (.int (if c then 1 else 0)) = .int (if c then 1 else 0)) = True := by
  by_cases h : c
  · rw [if_pos h]; exact xnb_1
  · rw [if_neg h]; exact xnb_0
/-- 1 or 0 -/
def xb (p : Prop) [Decidable p] : Int32 := if p then 1 else 0
theorem xnb_b (c : Prop) [Decidable c] : (narrow .boolean (.int (xb c)) = .int (xb c)) = True := xnb_i c
theorem xb_t {p : Prop} [Decidable p] (h : p) : xb p = 1 := if_pos h
theorem xb_f {p : Prop} [Decidable p] (h : ¬ p) : xb p = 0 := if_neg h
theorem xb_0 {p : Prop} [Decidable p] : (xb p = 0) = ¬ p := by
  by_cases h : p
  · rw [xb_t h]; exact propext ⟨fun q => absurd q (by decide), fun q => absurd h q⟩
  · rw [xb_f h]; exact propext ⟨fun _ => h, fun _ => rfl⟩
theorem vpI {n N : Nat} (h : n < N) (hN : N < 2147483648) : vp_in (nI n) N := vp_in_nI h hN

theorem xA_of {H : xH} {a n : Nat} {f : Nat → Option Nat} (h : H.1 a = xarA n f) : xlenQ H a = n ∧ xfnQ H a = f ∧ xlenA H a = n := by unfold xlenQ xfnQ xlenA; rw [h]; exact ⟨rfl, rfl, rfl⟩
theorem xR_of {H : xH} {a n : Nat} {f : Nat → Option Nat} (h : H.1 a = xarR n f) : xlenQ H a = n ∧ xfnQ H a = f ∧ xlenR H a = n := by unfold xlenQ xfnQ xlenR; rw [h]; exact ⟨rfl, rfl, rfl⟩
theorem xln_I {H : xH} {a n : Nat} {f : Nat → Int32} (h : H.1 a = xarI n f) : xlen H a = some n := by unfold xlen; rw [h]
theorem xln_B {H : xH} {a n : Nat} {f : Nat → Int32} (h : H.1 a = xarB n f) : xlen H a = some n := by unfold xlen; rw [h]
theorem xln_A {H : xH} {a n : Nat} {f : Nat → Option Nat} (h : H.1 a = xarA n f) : xlen H a = some n := by unfold xlen; rw [h]
theorem xln_R {H : xH} {a n : Nat} {f : Nat → Option Nat} (h : H.1 a = xarR n f) : xlen H a = some n := by unfold xlen; rw [h]
theorem xisI_of {H : xH} {a n : Nat} {f : Nat → Int32} (h : H.1 a = xarI n f) : xisI H a := ⟨n, f, h⟩
theorem xisA_of {H : xH} {a n : Nat} {f : Nat → Int32} (h : H.1 a = xarB n f) : xisA H a := ⟨n, f, h⟩
theorem xrf_s (a : Nat) : xrf (some a) = .ref a := rfl
