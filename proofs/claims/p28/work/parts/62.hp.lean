/-! ===== what a put asks of its value ===== -/
theorem hp_8_0 {x : Int32} : (narrow (xtyf 8 0) (.int x) = (.int x) ∧ fits (xtyf 8 0) (.int x) = true) ↔ True := ⟨fun _ => trivial, fun _ => ⟨rfl, rfl⟩⟩
theorem hp_8_1 {x : Nat} : (narrow (xtyf 8 1) (.ref x) = (.ref x) ∧ fits (xtyf 8 1) (.ref x) = true) ↔ True := ⟨fun _ => trivial, fun _ => ⟨rfl, rfl⟩⟩
theorem hn_8_1 : (narrow (xtyf 8 1) .null = .null ∧ fits (xtyf 8 1) .null = true) ↔ True := ⟨fun _ => trivial, fun _ => ⟨rfl, rfl⟩⟩
theorem hp_8_2 {x : Nat} : (narrow (xtyf 8 2) (.ref x) = (.ref x) ∧ fits (xtyf 8 2) (.ref x) = true) ↔ True := ⟨fun _ => trivial, fun _ => ⟨rfl, rfl⟩⟩
theorem hn_8_2 : (narrow (xtyf 8 2) .null = .null ∧ fits (xtyf 8 2) .null = true) ↔ True := ⟨fun _ => trivial, fun _ => ⟨rfl, rfl⟩⟩
theorem hp_9_0 {x : Int32} : (narrow (xtyf 9 0) (.int x) = (.int x) ∧ fits (xtyf 9 0) (.int x) = true) ↔ True := ⟨fun _ => trivial, fun _ => ⟨rfl, rfl⟩⟩
theorem hp_9_1 {x : Int32} : (narrow (xtyf 9 1) (.int x) = (.int x) ∧ fits (xtyf 9 1) (.int x) = true) ↔ True := ⟨fun _ => trivial, fun _ => ⟨rfl, rfl⟩⟩
theorem hp_9_2 {x : Int32} : (narrow (xtyf 9 2) (.int x) = (.int x) ∧ fits (xtyf 9 2) (.int x) = true) ↔ ybo x := ⟨fun h => h.1, fun h => ⟨h, yfb h⟩⟩
theorem hp_9_3 {x : Int32} : (narrow (xtyf 9 3) (.int x) = (.int x) ∧ fits (xtyf 9 3) (.int x) = true) ↔ True := ⟨fun _ => trivial, fun _ => ⟨rfl, rfl⟩⟩
theorem hp_9_4 {x : Int32} : (narrow (xtyf 9 4) (.int x) = (.int x) ∧ fits (xtyf 9 4) (.int x) = true) ↔ True := ⟨fun _ => trivial, fun _ => ⟨rfl, rfl⟩⟩
theorem hp_9_5 {x : Nat} : (narrow (xtyf 9 5) (.ref x) = (.ref x) ∧ fits (xtyf 9 5) (.ref x) = true) ↔ True := ⟨fun _ => trivial, fun _ => ⟨rfl, rfl⟩⟩
theorem hn_9_5 : (narrow (xtyf 9 5) .null = .null ∧ fits (xtyf 9 5) .null = true) ↔ True := ⟨fun _ => trivial, fun _ => ⟨rfl, rfl⟩⟩
theorem hp_9_6 {x : Nat} : (narrow (xtyf 9 6) (.ref x) = (.ref x) ∧ fits (xtyf 9 6) (.ref x) = true) ↔ True := ⟨fun _ => trivial, fun _ => ⟨rfl, rfl⟩⟩
theorem hn_9_6 : (narrow (xtyf 9 6) .null = .null ∧ fits (xtyf 9 6) .null = true) ↔ True := ⟨fun _ => trivial, fun _ => ⟨rfl, rfl⟩⟩
theorem hp_9_7 {x : Nat} : (narrow (xtyf 9 7) (.ref x) = (.ref x) ∧ fits (xtyf 9 7) (.ref x) = true) ↔ True := ⟨fun _ => trivial, fun _ => ⟨rfl, rfl⟩⟩
theorem hn_9_7 : (narrow (xtyf 9 7) .null = .null ∧ fits (xtyf 9 7) .null = true) ↔ True := ⟨fun _ => trivial, fun _ => ⟨rfl, rfl⟩⟩
theorem hp_10_0 {x : Int32} : (narrow (xtyf 10 0) (.int x) = (.int x) ∧ fits (xtyf 10 0) (.int x) = true) ↔ True := ⟨fun _ => trivial, fun _ => ⟨rfl, rfl⟩⟩
theorem hp_10_1 {x : Int32} : (narrow (xtyf 10 1) (.int x) = (.int x) ∧ fits (xtyf 10 1) (.int x) = true) ↔ True := ⟨fun _ => trivial, fun _ => ⟨rfl, rfl⟩⟩
theorem hp_10_2 {x : Nat} : (narrow (xtyf 10 2) (.ref x) = (.ref x) ∧ fits (xtyf 10 2) (.ref x) = true) ↔ True := ⟨fun _ => trivial, fun _ => ⟨rfl, rfl⟩⟩
theorem hn_10_2 : (narrow (xtyf 10 2) .null = .null ∧ fits (xtyf 10 2) .null = true) ↔ True := ⟨fun _ => trivial, fun _ => ⟨rfl, rfl⟩⟩
theorem hp_10_3 {x : Nat} : (narrow (xtyf 10 3) (.ref x) = (.ref x) ∧ fits (xtyf 10 3) (.ref x) = true) ↔ True := ⟨fun _ => trivial, fun _ => ⟨rfl, rfl⟩⟩
theorem hn_10_3 : (narrow (xtyf 10 3) .null = .null ∧ fits (xtyf 10 3) .null = true) ↔ True := ⟨fun _ => trivial, fun _ => ⟨rfl, rfl⟩⟩
theorem hp_11_0 {x : Int32} : (narrow (xtyf 11 0) (.int x) = (.int x) ∧ fits (xtyf 11 0) (.int x) = true) ↔ True := ⟨fun _ => trivial, fun _ => ⟨rfl, rfl⟩⟩
theorem hp_12_0 {x : Nat} : (narrow (xtyf 12 0) (.ref x) = (.ref x) ∧ fits (xtyf 12 0) (.ref x) = true) ↔ True := ⟨fun _ => trivial, fun _ => ⟨rfl, rfl⟩⟩
theorem hn_12_0 : (narrow (xtyf 12 0) .null = .null ∧ fits (xtyf 12 0) .null = true) ↔ True := ⟨fun _ => trivial, fun _ => ⟨rfl, rfl⟩⟩
theorem hp_12_1 {x : Int32} : (narrow (xtyf 12 1) (.int x) = (.int x) ∧ fits (xtyf 12 1) (.int x) = true) ↔ True := ⟨fun _ => trivial, fun _ => ⟨rfl, rfl⟩⟩
theorem hp_12_2 {x : Int32} : (narrow (xtyf 12 2) (.int x) = (.int x) ∧ fits (xtyf 12 2) (.int x) = true) ↔ True := ⟨fun _ => trivial, fun _ => ⟨rfl, rfl⟩⟩
theorem hp_12_3 {x : Int32} : (narrow (xtyf 12 3) (.int x) = (.int x) ∧ fits (xtyf 12 3) (.int x) = true) ↔ True := ⟨fun _ => trivial, fun _ => ⟨rfl, rfl⟩⟩
theorem hp_12_4 {x : Int32} : (narrow (xtyf 12 4) (.int x) = (.int x) ∧ fits (xtyf 12 4) (.int x) = true) ↔ True := ⟨fun _ => trivial, fun _ => ⟨rfl, rfl⟩⟩
theorem hp_12_5 {x : Nat} : (narrow (xtyf 12 5) (.ref x) = (.ref x) ∧ fits (xtyf 12 5) (.ref x) = true) ↔ True := ⟨fun _ => trivial, fun _ => ⟨rfl, rfl⟩⟩
theorem hn_12_5 : (narrow (xtyf 12 5) .null = .null ∧ fits (xtyf 12 5) .null = true) ↔ True := ⟨fun _ => trivial, fun _ => ⟨rfl, rfl⟩⟩
theorem hp_12_6 {x : Nat} : (narrow (xtyf 12 6) (.ref x) = (.ref x) ∧ fits (xtyf 12 6) (.ref x) = true) ↔ True := ⟨fun _ => trivial, fun _ => ⟨rfl, rfl⟩⟩
theorem hn_12_6 : (narrow (xtyf 12 6) .null = .null ∧ fits (xtyf 12 6) .null = true) ↔ True := ⟨fun _ => trivial, fun _ => ⟨rfl, rfl⟩⟩
theorem hp_12_7 {x : Int32} : (narrow (xtyf 12 7) (.int x) = (.int x) ∧ fits (xtyf 12 7) (.int x) = true) ↔ True := ⟨fun _ => trivial, fun _ => ⟨rfl, rfl⟩⟩
theorem hp_12_8 {x : Int32} : (narrow (xtyf 12 8) (.int x) = (.int x) ∧ fits (xtyf 12 8) (.int x) = true) ↔ True := ⟨fun _ => trivial, fun _ => ⟨rfl, rfl⟩⟩
theorem hp_13_0 {x : Nat} : (narrow (xtyf 13 0) (.ref x) = (.ref x) ∧ fits (xtyf 13 0) (.ref x) = true) ↔ True := ⟨fun _ => trivial, fun _ => ⟨rfl, rfl⟩⟩
theorem hn_13_0 : (narrow (xtyf 13 0) .null = .null ∧ fits (xtyf 13 0) .null = true) ↔ True := ⟨fun _ => trivial, fun _ => ⟨rfl, rfl⟩⟩
theorem hp_13_1 : (narrow (xtyf 13 1) (.int 0) = (.int 0) ∧ fits (xtyf 13 1) (.int 0) = true) ↔ True := ⟨fun _ => trivial, fun _ => ⟨rfl, rfl⟩⟩
theorem hp_13_2 {x : Int32} : (narrow (xtyf 13 2) (.int x) = (.int x) ∧ fits (xtyf 13 2) (.int x) = true) ↔ True := ⟨fun _ => trivial, fun _ => ⟨rfl, rfl⟩⟩
theorem hp_13_3 {x : Int32} : (narrow (xtyf 13 3) (.int x) = (.int x) ∧ fits (xtyf 13 3) (.int x) = true) ↔ ybo x := ⟨fun h => h.1, fun h => ⟨h, yfb h⟩⟩
theorem hp_14_0 {x : Nat} : (narrow (xtyf 14 0) (.ref x) = (.ref x) ∧ fits (xtyf 14 0) (.ref x) = true) ↔ True := ⟨fun _ => trivial, fun _ => ⟨rfl, rfl⟩⟩
theorem hn_14_0 : (narrow (xtyf 14 0) .null = .null ∧ fits (xtyf 14 0) .null = true) ↔ True := ⟨fun _ => trivial, fun _ => ⟨rfl, rfl⟩⟩
theorem hp_14_1 : (narrow (xtyf 14 1) (.int 0) = (.int 0) ∧ fits (xtyf 14 1) (.int 0) = true) ↔ True := ⟨fun _ => trivial, fun _ => ⟨rfl, rfl⟩⟩
theorem hp_14_2 {x : Int32} : (narrow (xtyf 14 2) (.int x) = (.int x) ∧ fits (xtyf 14 2) (.int x) = true) ↔ ybo x := ⟨fun h => h.1, fun h => ⟨h, yfb h⟩⟩
theorem hp_14_3 {x : Int32} : (narrow (xtyf 14 3) (.int x) = (.int x) ∧ fits (xtyf 14 3) (.int x) = true) ↔ True := ⟨fun _ => trivial, fun _ => ⟨rfl, rfl⟩⟩
theorem xdef_8 : xdef 8 = [.int 0, .null, .null] := rfl
theorem xdef_9 : xdef 9 = [.int 0, .int 0, .int 0, .int 0, .int 0, .null, .null, .null] := rfl
theorem xdef_10 : xdef 10 = [.int 0, .int 0, .null, .null] := rfl
theorem xdef_11 : xdef 11 = [.int 0] := rfl
theorem xdef_12 : xdef 12 = [.null, .int 0, .int 0, .int 0, .int 0, .null, .null, .int 0, .int 0] := rfl
theorem xdef_13 : xdef 13 = [.null, .int 0, .int 0, .int 0] := rfl
theorem xdef_14 : xdef 14 = [.null, .int 0, .int 0, .int 0] := rfl
theorem hset_0 {v0 v : Value} {l : List Value} : (v0 :: l).set 0 v = v :: l := rfl
theorem hset_1 {v0 v1 v : Value} {l : List Value} : (v0 :: v1 :: l).set 1 v = v0 :: v :: l := rfl
theorem hset_2 {v0 v1 v2 v : Value} {l : List Value} : (v0 :: v1 :: v2 :: l).set 2 v = v0 :: v1 :: v :: l := rfl
theorem hset_3 {v0 v1 v2 v3 v : Value} {l : List Value} : (v0 :: v1 :: v2 :: v3 :: l).set 3 v = v0 :: v1 :: v2 :: v :: l := rfl
theorem hset_4 {v0 v1 v2 v3 v4 v : Value} {l : List Value} : (v0 :: v1 :: v2 :: v3 :: v4 :: l).set 4 v = v0 :: v1 :: v2 :: v3 :: v :: l := rfl
theorem hset_5 {v0 v1 v2 v3 v4 v5 v : Value} {l : List Value} : (v0 :: v1 :: v2 :: v3 :: v4 :: v5 :: l).set 5 v = v0 :: v1 :: v2 :: v3 :: v4 :: v :: l := rfl
theorem hset_6 {v0 v1 v2 v3 v4 v5 v6 v : Value} {l : List Value} : (v0 :: v1 :: v2 :: v3 :: v4 :: v5 :: v6 :: l).set 6 v = v0 :: v1 :: v2 :: v3 :: v4 :: v5 :: v :: l := rfl
theorem hset_7 {v0 v1 v2 v3 v4 v5 v6 v7 v : Value} {l : List Value} : (v0 :: v1 :: v2 :: v3 :: v4 :: v5 :: v6 :: v7 :: l).set 7 v = v0 :: v1 :: v2 :: v3 :: v4 :: v5 :: v6 :: v :: l := rfl
theorem hset_8 {v0 v1 v2 v3 v4 v5 v6 v7 v8 v : Value} {l : List Value} : (v0 :: v1 :: v2 :: v3 :: v4 :: v5 :: v6 :: v7 :: v8 :: l).set 8 v = v0 :: v1 :: v2 :: v3 :: v4 :: v5 :: v6 :: v7 :: v :: l := rfl
