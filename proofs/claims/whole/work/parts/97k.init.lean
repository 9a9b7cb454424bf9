/-! the constructors -/
def TS (L k : Nat) : mm_S := (SH L).take k
/-- beyond k nothing stands -/
def FRS (k : Nat) (J K : mJ) (R : mm_R) : Prop := ∀ c, k ≤ c → J c = (fun _ => 0) ∧ K c = (fun _ => 0) ∧ R c = (fun _ => none)
def PR (b : Nat) (R : mm_R) : Prop := ∀ j q, R0 b j = some q → R b j = some q
/-- what a constructor of a leaves, the cells k to e made -/
def IC (a k e : Nat) (J K : mJ) (R R' : mm_R) : Prop := (∀ b, b < k → b ≠ a → R' b = R b) ∧ PR a R' ∧ (∀ b, k ≤ b → b < e → PR b R') ∧ FRS e J K R'
/-- .. on its way (x: a row that isn't full yet) -/
def CS (a k e x : Nat) (J K : mJ) (R R' : mm_R) : Prop := FRS e J K R' ∧ (∀ b, b < k → b ≠ a → R' b = R b) ∧ (∀ b, k ≤ b → b < e → b ≠ x → PR b R')
theorem tl_2 {L : Nat} : (TS L 2).length = 2 := rfl
theorem tk_2 {L : Nat} : TS L 2 ++ [(10, 10)] = TS L 3 := rfl
theorem tl_3 {L : Nat} : (TS L 3).length = 3 := rfl
theorem tk_3 {L : Nat} : TS L 3 ++ [(6, 4)] = TS L 4 := rfl
theorem tl_4 {L : Nat} : (TS L 4).length = 4 := rfl
theorem tk_4 {L : Nat} : TS L 4 ++ [(0, 2)] = TS L 5 := rfl
theorem tl_5 {L : Nat} : (TS L 5).length = 5 := rfl
theorem tk_5 {L : Nat} : TS L 5 ++ [(20, 120)] = TS L 6 := rfl
theorem tl_6 {L : Nat} : (TS L 6).length = 6 := rfl
theorem tk_6 {L : Nat} : TS L 6 ++ [(4, 3)] = TS L 7 := rfl
theorem tl_7 {L : Nat} : (TS L 7).length = 7 := rfl
theorem tk_7 {L : Nat} : TS L 7 ++ [(20, 5)] = TS L 8 := rfl
theorem tl_8 {L : Nat} : (TS L 8).length = 8 := rfl
theorem tk_8 {L : Nat} : TS L 8 ++ [(20, 5)] = TS L 9 := rfl
theorem tl_9 {L : Nat} : (TS L 9).length = 9 := rfl
theorem tk_9 {L : Nat} : TS L 9 ++ [(4, 3)] = TS L 10 := rfl
theorem tl_10 {L : Nat} : (TS L 10).length = 10 := rfl
theorem tk_10 {L : Nat} : TS L 10 ++ [(20, 10)] = TS L 11 := rfl
theorem tl_11 {L : Nat} : (TS L 11).length = 11 := rfl
theorem tk_11 {L : Nat} : TS L 11 ++ [(20, 10)] = TS L 12 := rfl
theorem tl_12 {L : Nat} : (TS L 12).length = 12 := rfl
theorem tk_12 {L : Nat} : TS L 12 ++ [(4, 3)] = TS L 13 := rfl
theorem tl_13 {L : Nat} : (TS L 13).length = 13 := rfl
theorem tk_13 {L : Nat} : TS L 13 ++ [(20, 8)] = TS L 14 := rfl
theorem tl_14 {L : Nat} : (TS L 14).length = 14 := rfl
theorem tk_14 {L : Nat} : TS L 14 ++ [(20, 8)] = TS L 15 := rfl
theorem tl_15 {L : Nat} : (TS L 15).length = 15 := rfl
theorem tk_15 {L : Nat} : TS L 15 ++ [(6, 4)] = TS L 16 := rfl
theorem tl_16 {L : Nat} : (TS L 16).length = 16 := rfl
theorem tk_16 {L : Nat} : TS L 16 ++ [(0, 2)] = TS L 17 := rfl
theorem tl_17 {L : Nat} : (TS L 17).length = 17 := rfl
theorem tk_17 {L : Nat} : TS L 17 ++ [(20, 120)] = TS L 18 := rfl
theorem tl_18 {L : Nat} : (TS L 18).length = 18 := rfl
theorem tk_18 {L : Nat} : TS L 18 ++ [(4, 3)] = TS L 19 := rfl
theorem tl_19 {L : Nat} : (TS L 19).length = 19 := rfl
theorem tk_19 {L : Nat} : TS L 19 ++ [(20, 5)] = TS L 20 := rfl
theorem tl_20 {L : Nat} : (TS L 20).length = 20 := rfl
theorem tk_20 {L : Nat} : TS L 20 ++ [(20, 5)] = TS L 21 := rfl
theorem tl_21 {L : Nat} : (TS L 21).length = 21 := rfl
theorem tk_21 {L : Nat} : TS L 21 ++ [(4, 3)] = TS L 22 := rfl
theorem tl_22 {L : Nat} : (TS L 22).length = 22 := rfl
theorem tk_22 {L : Nat} : TS L 22 ++ [(20, 10)] = TS L 23 := rfl
theorem tl_23 {L : Nat} : (TS L 23).length = 23 := rfl
theorem tk_23 {L : Nat} : TS L 23 ++ [(20, 10)] = TS L 24 := rfl
theorem tl_24 {L : Nat} : (TS L 24).length = 24 := rfl
theorem tk_24 {L : Nat} : TS L 24 ++ [(4, 3)] = TS L 25 := rfl
theorem tl_25 {L : Nat} : (TS L 25).length = 25 := rfl
theorem tk_25 {L : Nat} : TS L 25 ++ [(20, 8)] = TS L 26 := rfl
theorem tl_26 {L : Nat} : (TS L 26).length = 26 := rfl
theorem tk_26 {L : Nat} : TS L 26 ++ [(20, 8)] = TS L 27 := rfl
theorem tl_27 {L : Nat} : (TS L 27).length = 27 := rfl
theorem tk_27 {L : Nat} : TS L 27 ++ [(0, 2)] = TS L 28 := rfl
theorem tl_28 {L : Nat} : (TS L 28).length = 28 := rfl
theorem tk_28 {L : Nat} : TS L 28 ++ [(20, 100)] = TS L 29 := rfl
theorem tl_29 {L : Nat} : (TS L 29).length = 29 := rfl
theorem tk_29 {L : Nat} : TS L 29 ++ [(0, 2)] = TS L 30 := rfl
theorem tl_30 {L : Nat} : (TS L 30).length = 30 := rfl
theorem tk_30 {L : Nat} : TS L 30 ++ [(20, 120)] = TS L 31 := rfl
theorem tl_31 {L : Nat} : (TS L 31).length = 31 := rfl
theorem tk_31 {L : Nat} : TS L 31 ++ [(2, 5)] = TS L 32 := rfl
theorem tl_32 {L : Nat} : (TS L 32).length = 32 := rfl
theorem tk_32 {L : Nat} : TS L 32 ++ [(1, 4)] = TS L 33 := rfl
theorem tl_33 {L : Nat} : (TS L 33).length = 33 := rfl
theorem tk_33 {L : Nat} : TS L 33 ++ [(20, 6)] = TS L 34 := rfl
theorem tl_34 {L : Nat} : (TS L 34).length = 34 := rfl
theorem tk_34 {L : Nat} : TS L 34 ++ [(20, 6)] = TS L 35 := rfl
theorem tl_35 {L : Nat} : (TS L 35).length = 35 := rfl
theorem tk_35 {L : Nat} : TS L 35 ++ [(20, 6)] = TS L 36 := rfl
theorem tl_36 {L : Nat} : (TS L 36).length = 36 := rfl
theorem tk_36 {L : Nat} : TS L 36 ++ [(9, 7)] = TS L 37 := rfl
theorem tl_37 {L : Nat} : (TS L 37).length = 37 := rfl
theorem tk_37 {L : Nat} : TS L 37 ++ [(20, 40)] = TS L 38 := rfl
theorem tl_38 {L : Nat} : (TS L 38).length = 38 := rfl
theorem tk_38 {L : Nat} : TS L 38 ++ [(20, 40)] = TS L 39 := rfl
theorem tl_39 {L : Nat} : (TS L 39).length = 39 := rfl
theorem tk_39 {L : Nat} : TS L 39 ++ [(20, 40)] = TS L 40 := rfl
theorem tl_40 {L : Nat} : (TS L 40).length = 40 := rfl
theorem tk_40 {L : Nat} : TS L 40 ++ [(20, 40)] = TS L 41 := rfl
theorem tl_41 {L : Nat} : (TS L 41).length = 41 := rfl
theorem tk_41 {L : Nat} : TS L 41 ++ [(20, 40)] = TS L 42 := rfl
theorem tl_42 {L : Nat} : (TS L 42).length = 42 := rfl
theorem tk_42 {L : Nat} : TS L 42 ++ [(0, 2)] = TS L 43 := rfl
theorem tl_43 {L : Nat} : (TS L 43).length = 43 := rfl
theorem tk_43 {L : Nat} : TS L 43 ++ [(20, 120)] = TS L 44 := rfl
theorem tl_44 {L : Nat} : (TS L 44).length = 44 := rfl
theorem tk_44 {L : Nat} : TS L 44 ++ [(0, 2)] = TS L 45 := rfl
theorem tl_45 {L : Nat} : (TS L 45).length = 45 := rfl
theorem tk_45 {L : Nat} : TS L 45 ++ [(20, 0)] = TS L 46 := rfl
theorem tl_46 {L : Nat} : (TS L 46).length = 46 := rfl
theorem tk_46 {L : Nat} : TS L 46 ++ [(8, 5)] = TS L 47 := rfl
theorem tl_47 {L : Nat} : (TS L 47).length = 47 := rfl
theorem tk_47 {L : Nat} : TS L 47 ++ [(9, 7)] = TS L 48 := rfl
theorem tl_48 {L : Nat} : (TS L 48).length = 48 := rfl
theorem tk_48 {L : Nat} : TS L 48 ++ [(20, 40)] = TS L 49 := rfl
theorem tl_49 {L : Nat} : (TS L 49).length = 49 := rfl
theorem tk_49 {L : Nat} : TS L 49 ++ [(20, 40)] = TS L 50 := rfl
theorem tl_50 {L : Nat} : (TS L 50).length = 50 := rfl
theorem tk_50 {L : Nat} : TS L 50 ++ [(20, 40)] = TS L 51 := rfl
theorem tl_51 {L : Nat} : (TS L 51).length = 51 := rfl
theorem tk_51 {L : Nat} : TS L 51 ++ [(20, 40)] = TS L 52 := rfl
theorem tl_52 {L : Nat} : (TS L 52).length = 52 := rfl
theorem tk_52 {L : Nat} : TS L 52 ++ [(20, 40)] = TS L 53 := rfl
theorem tl_53 {L : Nat} : (TS L 53).length = 53 := rfl
theorem tk_53 {L : Nat} : TS L 53 ++ [(0, 2)] = TS L 54 := rfl
theorem tl_54 {L : Nat} : (TS L 54).length = 54 := rfl
theorem tk_54 {L : Nat} : TS L 54 ++ [(20, 120)] = TS L 55 := rfl
theorem tl_55 {L : Nat} : (TS L 55).length = 55 := rfl
theorem tk_55 {L : Nat} : TS L 55 ++ [(0, 2)] = TS L 56 := rfl
theorem tl_56 {L : Nat} : (TS L 56).length = 56 := rfl
theorem tk_56 {L : Nat} : TS L 56 ++ [(20, 0)] = TS L 57 := rfl
theorem tl_57 {L : Nat} : (TS L 57).length = 57 := rfl
theorem tk_57 {L : Nat} : TS L 57 ++ [(3, 2)] = TS L 58 := rfl
theorem tl_58 {L : Nat} : (TS L 58).length = 58 := rfl
theorem tk_58 {L : Nat} : TS L 58 ++ [(0, 2)] = TS L 59 := rfl
theorem tl_59 {L : Nat} : (TS L 59).length = 59 := rfl
theorem tk_59 {L : Nat} : TS L 59 ++ [(20, 240)] = TS L 60 := rfl
theorem tl_60 {L : Nat} : (TS L 60).length = 60 := rfl
theorem tk_60 {L : Nat} : TS L 60 ++ [(5, 1)] = TS L 61 := rfl
theorem tl_61 {L : Nat} : (TS L 61).length = 61 := rfl
theorem tk_61 {L : Nat} : TS L 61 ++ [(0, 2)] = TS L 62 := rfl
theorem tl_62 {L : Nat} : (TS L 62).length = 62 := rfl
theorem tk_62 {L : Nat} : TS L 62 ++ [(20, 600)] = TS L 63 := rfl
theorem tl_63 {L : Nat} : (TS L 63).length = 63 := rfl
theorem tk_63 {L : Nat} : TS L 63 ++ [(23, 6)] = TS L 64 := rfl
theorem tl_64 {L : Nat} : (TS L 64).length = 64 := rfl
theorem tk_64 {L : Nat} : TS L 64 ++ [(7, 3)] = TS L 65 := rfl
theorem tl_65 {L : Nat} : (TS L 65).length = 65 := rfl
theorem tk_65 {L : Nat} : TS L 65 ++ [(21, 60)] = TS L 66 := rfl
theorem tl_66 {L : Nat} : (TS L 66).length = 66 := rfl
theorem tk_66 {L : Nat} : TS L 66 ++ [(7, 3)] = TS L 67 := rfl
theorem tl_67 {L : Nat} : (TS L 67).length = 67 := rfl
theorem tk_67 {L : Nat} : TS L 67 ++ [(21, 60)] = TS L 68 := rfl
theorem tl_68 {L : Nat} : (TS L 68).length = 68 := rfl
theorem tk_68 {L : Nat} : TS L 68 ++ [(7, 3)] = TS L 69 := rfl
theorem tl_69 {L : Nat} : (TS L 69).length = 69 := rfl
theorem tk_69 {L : Nat} : TS L 69 ++ [(21, 60)] = TS L 70 := rfl
theorem tl_70 {L : Nat} : (TS L 70).length = 70 := rfl
theorem tk_70 {L : Nat} : TS L 70 ++ [(7, 3)] = TS L 71 := rfl
theorem tl_71 {L : Nat} : (TS L 71).length = 71 := rfl
theorem tk_71 {L : Nat} : TS L 71 ++ [(21, 60)] = TS L 72 := rfl
theorem tl_72 {L : Nat} : (TS L 72).length = 72 := rfl
theorem tk_72 {L : Nat} : TS L 72 ++ [(7, 3)] = TS L 73 := rfl
theorem tl_73 {L : Nat} : (TS L 73).length = 73 := rfl
theorem tk_73 {L : Nat} : TS L 73 ++ [(21, 60)] = TS L 74 := rfl
theorem tl_74 {L : Nat} : (TS L 74).length = 74 := rfl
theorem tk_74 {L : Nat} : TS L 74 ++ [(7, 3)] = TS L 75 := rfl
theorem tl_75 {L : Nat} : (TS L 75).length = 75 := rfl
theorem tk_75 {L : Nat} : TS L 75 ++ [(21, 60)] = TS L 76 := rfl
theorem tl_76 {L : Nat} : (TS L 76).length = 76 := rfl
theorem tk_76 {L : Nat} : TS L 76 ++ [(11, 58)] = TS L 77 := rfl
theorem tl_77 {L : Nat} : (TS L 77).length = 77 := rfl
theorem tk_77 {L : Nat} : TS L 77 ++ [(20, 120)] = TS L 78 := rfl
theorem tl_78 {L : Nat} : (TS L 78).length = 78 := rfl
theorem tk_78 {L : Nat} : TS L 78 ++ [(20, 5)] = TS L 79 := rfl
theorem tl_79 {L : Nat} : (TS L 79).length = 79 := rfl
theorem tk_79 {L : Nat} : TS L 79 ++ [(20, 5)] = TS L 80 := rfl
theorem tl_80 {L : Nat} : (TS L 80).length = 80 := rfl
theorem tk_80 {L : Nat} : TS L 80 ++ [(20, 10)] = TS L 81 := rfl
theorem tl_81 {L : Nat} : (TS L 81).length = 81 := rfl
theorem tk_81 {L : Nat} : TS L 81 ++ [(20, 10)] = TS L 82 := rfl
theorem tl_82 {L : Nat} : (TS L 82).length = 82 := rfl
theorem tk_82 {L : Nat} : TS L 82 ++ [(20, 8)] = TS L 83 := rfl
theorem tl_83 {L : Nat} : (TS L 83).length = 83 := rfl
theorem tk_83 {L : Nat} : TS L 83 ++ [(20, 8)] = TS L 84 := rfl
theorem tl_84 {L : Nat} : (TS L 84).length = 84 := rfl
theorem tk_84 {L : Nat} : TS L 84 ++ [(20, 200)] = TS L 85 := rfl
theorem tl_85 {L : Nat} : (TS L 85).length = 85 := rfl
theorem tk_85 {L : Nat} : TS L 85 ++ [(20, 200)] = TS L 86 := rfl
theorem tl_86 {L : Nat} : (TS L 86).length = 86 := rfl
theorem tk_86 {L : Nat} : TS L 86 ++ [(20, 60)] = TS L 87 := rfl
theorem tl_87 {L : Nat} : (TS L 87).length = 87 := rfl
theorem tk_87 {L : Nat} : TS L 87 ++ [(20, 60)] = TS L 88 := rfl
theorem tl_88 {L : Nat} : (TS L 88).length = 88 := rfl
theorem tk_88 {L : Nat} : TS L 88 ++ [(20, 60)] = TS L 89 := rfl
theorem tl_89 {L : Nat} : (TS L 89).length = 89 := rfl
theorem tk_89 {L : Nat} : TS L 89 ++ [(20, 60)] = TS L 90 := rfl
theorem tl_90 {L : Nat} : (TS L 90).length = 90 := rfl
theorem tk_90 {L : Nat} : TS L 90 ++ [(20, 8)] = TS L 91 := rfl
theorem tl_91 {L : Nat} : (TS L 91).length = 91 := rfl
theorem tk_91 {L : Nat} : TS L 91 ++ [(20, 8)] = TS L 92 := rfl
theorem tl_92 {L : Nat} : (TS L 92).length = 92 := rfl
theorem tk_92 {L : Nat} : TS L 92 ++ [(20, 8)] = TS L 93 := rfl
theorem tl_93 {L : Nat} : (TS L 93).length = 93 := rfl
theorem tk_93 {L : Nat} : TS L 93 ++ [(20, 4)] = TS L 94 := rfl
theorem tl_94 {L : Nat} : (TS L 94).length = 94 := rfl
theorem tk_94 {L : Nat} : TS L 94 ++ [(20, 4)] = TS L 95 := rfl
theorem tl_95 {L : Nat} : (TS L 95).length = 95 := rfl
theorem tk_95 {L : Nat} : TS L 95 ++ [(20, 4)] = TS L 96 := rfl
theorem tl_96 {L : Nat} : (TS L 96).length = 96 := rfl
theorem tk_96 {L : Nat} : TS L 96 ++ [(20, 4)] = TS L 97 := rfl
theorem tl_97 {L : Nat} : (TS L 97).length = 97 := rfl
theorem tk_97 {L : Nat} : TS L 97 ++ [(20, 4)] = TS L 98 := rfl
theorem tl_98 {L : Nat} : (TS L 98).length = 98 := rfl
theorem tk_98 {L : Nat} : TS L 98 ++ [(20, 400)] = TS L 99 := rfl
theorem tl_99 {L : Nat} : (TS L 99).length = 99 := rfl
theorem tk_99 {L : Nat} : TS L 99 ++ [(20, 60)] = TS L 100 := rfl
theorem tl_100 {L : Nat} : (TS L 100).length = 100 := rfl
theorem tk_100 {L : Nat} : TS L 100 ++ [(20, 60)] = TS L 101 := rfl
theorem tl_101 {L : Nat} : (TS L 101).length = 101 := rfl
theorem tk_101 {L : Nat} : TS L 101 ++ [(20, 60)] = TS L 102 := rfl
theorem tl_102 {L : Nat} : (TS L 102).length = 102 := rfl
theorem tk_102 {L : Nat} : TS L 102 ++ [(20, 200)] = TS L 103 := rfl
theorem tl_103 {L : Nat} : (TS L 103).length = 103 := rfl
theorem tk_103 {L : Nat} : TS L 103 ++ [(20, 100)] = TS L 104 := rfl
theorem tl_104 {L : Nat} : (TS L 104).length = 104 := rfl
theorem tk_104 {L : Nat} : TS L 104 ++ [(20, 3)] = TS L 105 := rfl
theorem tl_105 {L : Nat} : (TS L 105).length = 105 := rfl
theorem tk_105 {L : Nat} : TS L 105 ++ [(20, 6)] = TS L 106 := rfl
theorem tl_106 {L : Nat} : (TS L 106).length = 106 := rfl
theorem tk_106 {L : Nat} : TS L 106 ++ [(20, 6)] = TS L 107 := rfl
theorem tl_107 {L : Nat} : (TS L 107).length = 107 := rfl
theorem tk_107 {L : Nat} : TS L 107 ++ [(21, 360)] = TS L 108 := rfl
theorem tl_108 {L : Nat} : (TS L 108).length = 108 := rfl
theorem tk_108 {L : Nat} : TS L 108 ++ [(21, 60)] = TS L 109 := rfl
theorem tl_109 {L : Nat} : (TS L 109).length = 109 := rfl
theorem tk_109 {L : Nat} : TS L 109 ++ [(22, 6)] = TS L 110 := rfl
theorem R0_5 : ∀ j, R0 5 j = none := fun _ => rfl
theorem R0_7 : ∀ j, R0 7 j = none := fun _ => rfl
theorem R0_8 : ∀ j, R0 8 j = none := fun _ => rfl
theorem R0_10 : ∀ j, R0 10 j = none := fun _ => rfl
theorem R0_11 : ∀ j, R0 11 j = none := fun _ => rfl
theorem R0_13 : ∀ j, R0 13 j = none := fun _ => rfl
theorem R0_14 : ∀ j, R0 14 j = none := fun _ => rfl
theorem R0_17 : ∀ j, R0 17 j = none := fun _ => rfl
theorem R0_19 : ∀ j, R0 19 j = none := fun _ => rfl
theorem R0_20 : ∀ j, R0 20 j = none := fun _ => rfl
theorem R0_22 : ∀ j, R0 22 j = none := fun _ => rfl
theorem R0_23 : ∀ j, R0 23 j = none := fun _ => rfl
theorem R0_25 : ∀ j, R0 25 j = none := fun _ => rfl
theorem R0_26 : ∀ j, R0 26 j = none := fun _ => rfl
theorem R0_28 : ∀ j, R0 28 j = none := fun _ => rfl
theorem R0_30 : ∀ j, R0 30 j = none := fun _ => rfl
theorem R0_33 : ∀ j, R0 33 j = none := fun _ => rfl
theorem R0_34 : ∀ j, R0 34 j = none := fun _ => rfl
theorem R0_35 : ∀ j, R0 35 j = none := fun _ => rfl
theorem R0_37 : ∀ j, R0 37 j = none := fun _ => rfl
theorem R0_38 : ∀ j, R0 38 j = none := fun _ => rfl
theorem R0_39 : ∀ j, R0 39 j = none := fun _ => rfl
theorem R0_40 : ∀ j, R0 40 j = none := fun _ => rfl
theorem R0_41 : ∀ j, R0 41 j = none := fun _ => rfl
theorem R0_43 : ∀ j, R0 43 j = none := fun _ => rfl
theorem R0_45 : ∀ j, R0 45 j = none := fun _ => rfl
theorem R0_48 : ∀ j, R0 48 j = none := fun _ => rfl
theorem R0_49 : ∀ j, R0 49 j = none := fun _ => rfl
theorem R0_50 : ∀ j, R0 50 j = none := fun _ => rfl
theorem R0_51 : ∀ j, R0 51 j = none := fun _ => rfl
theorem R0_52 : ∀ j, R0 52 j = none := fun _ => rfl
theorem R0_54 : ∀ j, R0 54 j = none := fun _ => rfl
theorem R0_56 : ∀ j, R0 56 j = none := fun _ => rfl
theorem R0_59 : ∀ j, R0 59 j = none := fun _ => rfl
theorem R0_62 : ∀ j, R0 62 j = none := fun _ => rfl
theorem R0_65 : ∀ j, R0 65 j = none := fun _ => rfl
theorem R0_67 : ∀ j, R0 67 j = none := fun _ => rfl
theorem R0_69 : ∀ j, R0 69 j = none := fun _ => rfl
theorem R0_71 : ∀ j, R0 71 j = none := fun _ => rfl
theorem R0_73 : ∀ j, R0 73 j = none := fun _ => rfl
theorem R0_75 : ∀ j, R0 75 j = none := fun _ => rfl
theorem R0_77 : ∀ j, R0 77 j = none := fun _ => rfl
theorem R0_78 : ∀ j, R0 78 j = none := fun _ => rfl
theorem R0_79 : ∀ j, R0 79 j = none := fun _ => rfl
theorem R0_80 : ∀ j, R0 80 j = none := fun _ => rfl
theorem R0_81 : ∀ j, R0 81 j = none := fun _ => rfl
theorem R0_82 : ∀ j, R0 82 j = none := fun _ => rfl
theorem R0_83 : ∀ j, R0 83 j = none := fun _ => rfl
theorem R0_84 : ∀ j, R0 84 j = none := fun _ => rfl
theorem R0_85 : ∀ j, R0 85 j = none := fun _ => rfl
theorem R0_86 : ∀ j, R0 86 j = none := fun _ => rfl
theorem R0_87 : ∀ j, R0 87 j = none := fun _ => rfl
theorem R0_88 : ∀ j, R0 88 j = none := fun _ => rfl
theorem R0_89 : ∀ j, R0 89 j = none := fun _ => rfl
theorem R0_90 : ∀ j, R0 90 j = none := fun _ => rfl
theorem R0_91 : ∀ j, R0 91 j = none := fun _ => rfl
theorem R0_92 : ∀ j, R0 92 j = none := fun _ => rfl
theorem R0_93 : ∀ j, R0 93 j = none := fun _ => rfl
theorem R0_94 : ∀ j, R0 94 j = none := fun _ => rfl
theorem R0_95 : ∀ j, R0 95 j = none := fun _ => rfl
theorem R0_96 : ∀ j, R0 96 j = none := fun _ => rfl
theorem R0_97 : ∀ j, R0 97 j = none := fun _ => rfl
theorem R0_98 : ∀ j, R0 98 j = none := fun _ => rfl
theorem R0_99 : ∀ j, R0 99 j = none := fun _ => rfl
theorem R0_100 : ∀ j, R0 100 j = none := fun _ => rfl
theorem R0_101 : ∀ j, R0 101 j = none := fun _ => rfl
theorem R0_102 : ∀ j, R0 102 j = none := fun _ => rfl
theorem R0_103 : ∀ j, R0 103 j = none := fun _ => rfl
theorem R0_104 : ∀ j, R0 104 j = none := fun _ => rfl
theorem R0_105 : ∀ j, R0 105 j = none := fun _ => rfl
theorem R0_106 : ∀ j, R0 106 j = none := fun _ => rfl
theorem R0_107 : ∀ j, R0 107 j = none := fun _ => rfl
theorem R0_108 : ∀ j, R0 108 j = none := fun _ => rfl
theorem R0_109 : ∀ j, R0 109 j = none := fun _ => rfl
section
variable {L d a k e x f : Nat} {J K : mJ} {R R' Q : mm_R}
theorem rw_fr {α : Type} {f : Nat → Nat → α} {c : Nat} {g : Nat → α} (h : f c = g) : mm_rw f c g = f := by
  funext b j
  by_cases q : b = c
  · subst q; rw [rw_s, h]
  · rw [rw_a q]
theorem up_nR {α : Type} {f : Nat → Nat → α} {c b i : Nat} {v : α} (h : b ≠ c) : mm_up f c i v b = f b := by
  funext j
  exact up_a h
theorem fr_rw0 (h : FRS k J K R) : mm_rw J k (fun _ => 0) = J ∧ mm_rw K k (fun _ => 0) = K ∧ mm_rw R k (fun _ => none) = R := ⟨rw_fr (h k (Nat.le_refl _)).1, rw_fr (h k (Nat.le_refl _)).2.1, rw_fr (h k (Nat.le_refl _)).2.2⟩
theorem FRS_1 (h : FRS k J K R) : FRS (k + 1) J K R := fun c hc => h c (by omega)
theorem CS_0 (h : FRS k J K R) : CS a k k x J K R R := ⟨h, fun _ _ _ => rfl, fun b h1 h2 => by omega⟩
theorem PR_o {b : Nat} (h : PR b R) (e : R' b = R b) : PR b R' := fun j q hq => by rw [e]; exact h j q hq
theorem PR_n {b : Nat} (h : ∀ j, R0 b j = none) : PR b R := fun j q hq => by rw [h] at hq; cases hq
theorem CS_arr (h : CS a k e x J K R R') (h1 : a < k) (h2 : k ≤ e) (hn : ∀ j, R0 e j = none) : CS a k (e + 1) x J K R (mm_up R' a f (some e)) := by
  obtain ⟨c1, c2, c3⟩ := h
  refine ⟨fun c hc => ?_, fun b b1 b2 => ?_, fun b b1 b2 b3 => ?_⟩
  · have := c1 c (by omega)
    exact ⟨this.1, this.2.1, by rw [up_nR (by omega)]; exact this.2.2⟩
  · rw [up_nR b2]; exact c2 b b1 b2
  · by_cases q : b = e
    · subst q; exact PR_n hn
    · exact PR_o (c3 b b1 (by omega) b3) (up_nR (by omega))
theorem CS_obj {o : Nat} (h : CS a k e x J K R R') (w : IC e (e + 1) o J K R' Q) (h1 : a < k) (h2 : k ≤ e) (h3 : e + 1 ≤ o) : CS a k o x J K R (mm_up Q a f (some e)) := by
  obtain ⟨c1, c2, c3⟩ := h
  obtain ⟨w1, w2, w3, w4⟩ := w
  refine ⟨fun c hc => ?_, fun b b1 b2 => ?_, fun b b1 b2 b3 => ?_⟩
  · have := w4 c (by omega)
    exact ⟨this.1, this.2.1, by rw [up_nR (by omega)]; exact this.2.2⟩
  · rw [up_nR b2, w1 b (by omega) (by omega)]; exact c2 b b1 b2
  · by_cases q : b = e
    · subst q; exact PR_o w2 (up_nR (by omega))
    · by_cases q2 : b < e
      · exact PR_o (c3 b b1 q2 b3) (by rw [up_nR (by omega), w1 b (by omega) q])
      · exact PR_o (w3 b (by omega) b2) (up_nR (by omega))
theorem CS_IC (h : CS a k e 0 J K R R') (hp : PR a R') : IC a k e J K R R' := by
  obtain ⟨c1, c2, c3⟩ := h
  refine ⟨c2, hp, fun b b1 b2 => ?_, c1⟩
  by_cases q : b = 0
  · subst q; exact PR_n (fun _ => rfl)
  · exact c3 b b1 b2 q
theorem ci_1 (h : FRS 5 J K R) : ∃ R', EE (d) 0 0 [some (.ref 4), some (vi 120)] [] (TS L 5) J K R = ok none (TS L 6) J K R' ∧ IC 4 5 6 J K R R' := by
  have c0 : CS 4 5 5 0 J K R R := CS_0 h
  have jf0 := (fr_rw0 c0.1).1
  have kf0 := (fr_rw0 c0.1).2.1
  have rf0 := (fr_rw0 c0.1).2.2
  have c1 := CS_arr (f := 0) c0 (by omega) (by omega) R0_5
  have e0 : EE (d) 0 4 [some (.ref 4), some (vi 120)] [] (TS L 5) J K R = EE (d) 0 15 [some (.ref 4), some (vi 120)] [] (TS L 6) J K (mm_up R 4 0 (some 5)) := by
    have s4 : (TS L 6)[4]? = some (0, 2) := rfl
    simp (disch := first | assumption | omega | exact bi_lo | exact bi_hi | exact bi_01 | exact jcmp_lo | exact jcmp_hi | exact (jor_r _ _).1 | exact (jor_r _ _).2 | exact (jand_r _ _).1 | exact (jand_r _ _).2) only [x0_4, x0_5, x0_6, x0_7, x0_10, x0_12, kb_some, kb_none, clr_vi, clr_ref, clr_null, clr_none, va_rf_some, va_rf_none, ↓bi_ite_t, ↓bi_ite_f, ↓jc_lt_t, ↓jc_lt_f, ↓jc_gt_t, ↓jc_gt_f, ↓jc_le_t, ↓jc_le_f, ↓jc_ge_t, ↓jc_ge_f, ↓jc_eq_t, ↓jc_eq_f, ↓if_pos, ↓if_neg, Int.reduceToNat, tl_5, tk_5, jf0, kf0, rf0]
  -- 1
  obtain ⟨R1, hR1⟩ : ∃ X, X = mm_up R 4 0 (some 5) := ⟨_, rfl⟩
  rw [← hR1] at e0 c1
  have hp : PR 4 R1 := by
    intro j q h
    match j, h with
    | 0, h => exact ((congrFun (congrFun hR1 4) _).trans (up_s)).trans h
    | 1, h => exact nomatch (show (none : Option Nat) = some q from h)
    | j + 2, h => exact nomatch (show (none : Option Nat) = some q from h)
  refine ⟨R1, ?_, CS_IC c1 hp⟩
  simp (disch := first | assumption | omega | exact bi_lo | exact bi_hi | exact bi_01 | exact jcmp_lo | exact jcmp_hi | exact (jor_r _ _).1 | exact (jor_r _ _).2 | exact (jand_r _ _).1 | exact (jand_r _ _).2) only [x0_0, x0_1, kb_some, kb_none, clr_vi, clr_ref, clr_null, clr_none, va_rf_some, va_rf_none, ↓bi_ite_t, ↓bi_ite_f, ↓jc_lt_t, ↓jc_lt_f, ↓jc_gt_t, ↓jc_gt_f, ↓jc_le_t, ↓jc_le_f, ↓jc_ge_t, ↓jc_ge_f, ↓jc_eq_t, ↓jc_eq_f, ↓if_pos, ↓if_neg]
  rw [e0]
  simp (disch := first | assumption | omega | exact bi_lo | exact bi_hi | exact bi_01 | exact jcmp_lo | exact jcmp_hi | exact (jor_r _ _).1 | exact (jor_r _ _).2 | exact (jand_r _ _).1 | exact (jand_r _ _).2) only [x0_15, kb_some, kb_none, clr_vi, clr_ref, clr_null, clr_none, va_rf_some, va_rf_none, ↓bi_ite_t, ↓bi_ite_f, ↓jc_lt_t, ↓jc_lt_f, ↓jc_gt_t, ↓jc_gt_f, ↓jc_le_t, ↓jc_le_f, ↓jc_ge_t, ↓jc_ge_f, ↓jc_eq_t, ↓jc_eq_f, ↓if_pos, ↓if_neg]
theorem ci_2 (h : FRS 7 J K R) : ∃ R', EE (d) 40 0 [some (.ref 6), some (vi 5)] [] (TS L 7) J K R = ok none (TS L 9) J K R' ∧ IC 6 7 9 J K R R' := by
  have c0 : CS 6 7 7 0 J K R R := CS_0 h
  have jf0 := (fr_rw0 c0.1).1
  have kf0 := (fr_rw0 c0.1).2.1
  have rf0 := (fr_rw0 c0.1).2.2
  have c1 := CS_arr (f := 0) c0 (by omega) (by omega) R0_7
  have e0 : EE (d) 40 4 [some (.ref 6), some (vi 5)] [] (TS L 7) J K R = EE (d) 40 15 [some (.ref 6), some (vi 5)] [] (TS L 8) J K (mm_up R 6 0 (some 7)) := by
    have s6 : (TS L 8)[6]? = some (4, 3) := rfl
    simp (disch := first | assumption | omega | exact bi_lo | exact bi_hi | exact bi_01 | exact jcmp_lo | exact jcmp_hi | exact (jor_r _ _).1 | exact (jor_r _ _).2 | exact (jand_r _ _).1 | exact (jand_r _ _).2) only [x40_4, x40_5, x40_6, x40_7, x40_10, x40_12, kb_some, kb_none, clr_vi, clr_ref, clr_null, clr_none, va_rf_some, va_rf_none, ↓bi_ite_t, ↓bi_ite_f, ↓jc_lt_t, ↓jc_lt_f, ↓jc_gt_t, ↓jc_gt_f, ↓jc_le_t, ↓jc_le_f, ↓jc_ge_t, ↓jc_ge_f, ↓jc_eq_t, ↓jc_eq_f, ↓if_pos, ↓if_neg, Int.reduceToNat, tl_7, tk_7, jf0, kf0, rf0]
  -- 1
  obtain ⟨R1, hR1⟩ : ∃ X, X = mm_up R 6 0 (some 7) := ⟨_, rfl⟩
  rw [← hR1] at e0 c1
  have jf1 := (fr_rw0 c1.1).1
  have kf1 := (fr_rw0 c1.1).2.1
  have rf1 := (fr_rw0 c1.1).2.2
  have c2 := CS_arr (f := 1) c1 (by omega) (by omega) R0_8
  have e1 : EE (d) 40 15 [some (.ref 6), some (vi 5)] [] (TS L 8) J K R1 = EE (d) 40 26 [some (.ref 6), some (vi 5)] [] (TS L 9) J K (mm_up R1 6 1 (some 8)) := by
    have s6 : (TS L 9)[6]? = some (4, 3) := rfl
    simp (disch := first | assumption | omega | exact bi_lo | exact bi_hi | exact bi_01 | exact jcmp_lo | exact jcmp_hi | exact (jor_r _ _).1 | exact (jor_r _ _).2 | exact (jand_r _ _).1 | exact (jand_r _ _).2) only [x40_15, x40_16, x40_17, x40_18, x40_21, x40_23, kb_some, kb_none, clr_vi, clr_ref, clr_null, clr_none, va_rf_some, va_rf_none, ↓bi_ite_t, ↓bi_ite_f, ↓jc_lt_t, ↓jc_lt_f, ↓jc_gt_t, ↓jc_gt_f, ↓jc_le_t, ↓jc_le_f, ↓jc_ge_t, ↓jc_ge_f, ↓jc_eq_t, ↓jc_eq_f, ↓if_pos, ↓if_neg, Int.reduceToNat, tl_8, tk_8, jf1, kf1, rf1]
  -- 2
  obtain ⟨R2, hR2⟩ : ∃ X, X = mm_up R1 6 1 (some 8) := ⟨_, rfl⟩
  rw [← hR2] at e1 c2
  have hp : PR 6 R2 := by
    intro j q h
    match j, h with
    | 0, h => exact ((congrFun (congrFun hR2 6) _).trans ((up_j (by decide)).trans ((congrFun (congrFun hR1 6) _).trans (up_s)))).trans h
    | 1, h => exact ((congrFun (congrFun hR2 6) _).trans (up_s)).trans h
    | 2, h => exact nomatch (show (none : Option Nat) = some q from h)
    | j + 3, h => exact nomatch (show (none : Option Nat) = some q from h)
  refine ⟨R2, ?_, CS_IC c2 hp⟩
  simp (disch := first | assumption | omega | exact bi_lo | exact bi_hi | exact bi_01 | exact jcmp_lo | exact jcmp_hi | exact (jor_r _ _).1 | exact (jor_r _ _).2 | exact (jand_r _ _).1 | exact (jand_r _ _).2) only [x40_0, x40_1, kb_some, kb_none, clr_vi, clr_ref, clr_null, clr_none, va_rf_some, va_rf_none, ↓bi_ite_t, ↓bi_ite_f, ↓jc_lt_t, ↓jc_lt_f, ↓jc_gt_t, ↓jc_gt_f, ↓jc_le_t, ↓jc_le_f, ↓jc_ge_t, ↓jc_ge_f, ↓jc_eq_t, ↓jc_eq_f, ↓if_pos, ↓if_neg]
  rw [e0, e1]
  simp (disch := first | assumption | omega | exact bi_lo | exact bi_hi | exact bi_01 | exact jcmp_lo | exact jcmp_hi | exact (jor_r _ _).1 | exact (jor_r _ _).2 | exact (jand_r _ _).1 | exact (jand_r _ _).2) only [x40_26, kb_some, kb_none, clr_vi, clr_ref, clr_null, clr_none, va_rf_some, va_rf_none, ↓bi_ite_t, ↓bi_ite_f, ↓jc_lt_t, ↓jc_lt_f, ↓jc_gt_t, ↓jc_gt_f, ↓jc_le_t, ↓jc_le_f, ↓jc_ge_t, ↓jc_ge_f, ↓jc_eq_t, ↓jc_eq_f, ↓if_pos, ↓if_neg]
theorem ci_3 (h : FRS 10 J K R) : ∃ R', EE (d) 40 0 [some (.ref 9), some (vi 10)] [] (TS L 10) J K R = ok none (TS L 12) J K R' ∧ IC 9 10 12 J K R R' := by
  have c0 : CS 9 10 10 0 J K R R := CS_0 h
  have jf0 := (fr_rw0 c0.1).1
  have kf0 := (fr_rw0 c0.1).2.1
  have rf0 := (fr_rw0 c0.1).2.2
  have c1 := CS_arr (f := 0) c0 (by omega) (by omega) R0_10
  have e0 : EE (d) 40 4 [some (.ref 9), some (vi 10)] [] (TS L 10) J K R = EE (d) 40 15 [some (.ref 9), some (vi 10)] [] (TS L 11) J K (mm_up R 9 0 (some 10)) := by
    have s9 : (TS L 11)[9]? = some (4, 3) := rfl
    simp (disch := first | assumption | omega | exact bi_lo | exact bi_hi | exact bi_01 | exact jcmp_lo | exact jcmp_hi | exact (jor_r _ _).1 | exact (jor_r _ _).2 | exact (jand_r _ _).1 | exact (jand_r _ _).2) only [x40_4, x40_5, x40_6, x40_7, x40_10, x40_12, kb_some, kb_none, clr_vi, clr_ref, clr_null, clr_none, va_rf_some, va_rf_none, ↓bi_ite_t, ↓bi_ite_f, ↓jc_lt_t, ↓jc_lt_f, ↓jc_gt_t, ↓jc_gt_f, ↓jc_le_t, ↓jc_le_f, ↓jc_ge_t, ↓jc_ge_f, ↓jc_eq_t, ↓jc_eq_f, ↓if_pos, ↓if_neg, Int.reduceToNat, tl_10, tk_10, jf0, kf0, rf0]
  -- 1
  obtain ⟨R1, hR1⟩ : ∃ X, X = mm_up R 9 0 (some 10) := ⟨_, rfl⟩
  rw [← hR1] at e0 c1
  have jf1 := (fr_rw0 c1.1).1
  have kf1 := (fr_rw0 c1.1).2.1
  have rf1 := (fr_rw0 c1.1).2.2
  have c2 := CS_arr (f := 1) c1 (by omega) (by omega) R0_11
  have e1 : EE (d) 40 15 [some (.ref 9), some (vi 10)] [] (TS L 11) J K R1 = EE (d) 40 26 [some (.ref 9), some (vi 10)] [] (TS L 12) J K (mm_up R1 9 1 (some 11)) := by
    have s9 : (TS L 12)[9]? = some (4, 3) := rfl
    simp (disch := first | assumption | omega | exact bi_lo | exact bi_hi | exact bi_01 | exact jcmp_lo | exact jcmp_hi | exact (jor_r _ _).1 | exact (jor_r _ _).2 | exact (jand_r _ _).1 | exact (jand_r _ _).2) only [x40_15, x40_16, x40_17, x40_18, x40_21, x40_23, kb_some, kb_none, clr_vi, clr_ref, clr_null, clr_none, va_rf_some, va_rf_none, ↓bi_ite_t, ↓bi_ite_f, ↓jc_lt_t, ↓jc_lt_f, ↓jc_gt_t, ↓jc_gt_f, ↓jc_le_t, ↓jc_le_f, ↓jc_ge_t, ↓jc_ge_f, ↓jc_eq_t, ↓jc_eq_f, ↓if_pos, ↓if_neg, Int.reduceToNat, tl_11, tk_11, jf1, kf1, rf1]
  -- 2
  obtain ⟨R2, hR2⟩ : ∃ X, X = mm_up R1 9 1 (some 11) := ⟨_, rfl⟩
  rw [← hR2] at e1 c2
  have hp : PR 9 R2 := by
    intro j q h
    match j, h with
    | 0, h => exact ((congrFun (congrFun hR2 9) _).trans ((up_j (by decide)).trans ((congrFun (congrFun hR1 9) _).trans (up_s)))).trans h
    | 1, h => exact ((congrFun (congrFun hR2 9) _).trans (up_s)).trans h
    | 2, h => exact nomatch (show (none : Option Nat) = some q from h)
    | j + 3, h => exact nomatch (show (none : Option Nat) = some q from h)
  refine ⟨R2, ?_, CS_IC c2 hp⟩
  simp (disch := first | assumption | omega | exact bi_lo | exact bi_hi | exact bi_01 | exact jcmp_lo | exact jcmp_hi | exact (jor_r _ _).1 | exact (jor_r _ _).2 | exact (jand_r _ _).1 | exact (jand_r _ _).2) only [x40_0, x40_1, kb_some, kb_none, clr_vi, clr_ref, clr_null, clr_none, va_rf_some, va_rf_none, ↓bi_ite_t, ↓bi_ite_f, ↓jc_lt_t, ↓jc_lt_f, ↓jc_gt_t, ↓jc_gt_f, ↓jc_le_t, ↓jc_le_f, ↓jc_ge_t, ↓jc_ge_f, ↓jc_eq_t, ↓jc_eq_f, ↓if_pos, ↓if_neg]
  rw [e0, e1]
  simp (disch := first | assumption | omega | exact bi_lo | exact bi_hi | exact bi_01 | exact jcmp_lo | exact jcmp_hi | exact (jor_r _ _).1 | exact (jor_r _ _).2 | exact (jand_r _ _).1 | exact (jand_r _ _).2) only [x40_26, kb_some, kb_none, clr_vi, clr_ref, clr_null, clr_none, va_rf_some, va_rf_none, ↓bi_ite_t, ↓bi_ite_f, ↓jc_lt_t, ↓jc_lt_f, ↓jc_gt_t, ↓jc_gt_f, ↓jc_le_t, ↓jc_le_f, ↓jc_ge_t, ↓jc_ge_f, ↓jc_eq_t, ↓jc_eq_f, ↓if_pos, ↓if_neg]
theorem ci_4 (h : FRS 13 J K R) : ∃ R', EE (d) 40 0 [some (.ref 12), some (vi 8)] [] (TS L 13) J K R = ok none (TS L 15) J K R' ∧ IC 12 13 15 J K R R' := by
  have c0 : CS 12 13 13 0 J K R R := CS_0 h
  have jf0 := (fr_rw0 c0.1).1
  have kf0 := (fr_rw0 c0.1).2.1
  have rf0 := (fr_rw0 c0.1).2.2
  have c1 := CS_arr (f := 0) c0 (by omega) (by omega) R0_13
  have e0 : EE (d) 40 4 [some (.ref 12), some (vi 8)] [] (TS L 13) J K R = EE (d) 40 15 [some (.ref 12), some (vi 8)] [] (TS L 14) J K (mm_up R 12 0 (some 13)) := by
    have s12 : (TS L 14)[12]? = some (4, 3) := rfl
    simp (disch := first | assumption | omega | exact bi_lo | exact bi_hi | exact bi_01 | exact jcmp_lo | exact jcmp_hi | exact (jor_r _ _).1 | exact (jor_r _ _).2 | exact (jand_r _ _).1 | exact (jand_r _ _).2) only [x40_4, x40_5, x40_6, x40_7, x40_10, x40_12, kb_some, kb_none, clr_vi, clr_ref, clr_null, clr_none, va_rf_some, va_rf_none, ↓bi_ite_t, ↓bi_ite_f, ↓jc_lt_t, ↓jc_lt_f, ↓jc_gt_t, ↓jc_gt_f, ↓jc_le_t, ↓jc_le_f, ↓jc_ge_t, ↓jc_ge_f, ↓jc_eq_t, ↓jc_eq_f, ↓if_pos, ↓if_neg, Int.reduceToNat, tl_13, tk_13, jf0, kf0, rf0]
  -- 1
  obtain ⟨R1, hR1⟩ : ∃ X, X = mm_up R 12 0 (some 13) := ⟨_, rfl⟩
  rw [← hR1] at e0 c1
  have jf1 := (fr_rw0 c1.1).1
  have kf1 := (fr_rw0 c1.1).2.1
  have rf1 := (fr_rw0 c1.1).2.2
  have c2 := CS_arr (f := 1) c1 (by omega) (by omega) R0_14
  have e1 : EE (d) 40 15 [some (.ref 12), some (vi 8)] [] (TS L 14) J K R1 = EE (d) 40 26 [some (.ref 12), some (vi 8)] [] (TS L 15) J K (mm_up R1 12 1 (some 14)) := by
    have s12 : (TS L 15)[12]? = some (4, 3) := rfl
    simp (disch := first | assumption | omega | exact bi_lo | exact bi_hi | exact bi_01 | exact jcmp_lo | exact jcmp_hi | exact (jor_r _ _).1 | exact (jor_r _ _).2 | exact (jand_r _ _).1 | exact (jand_r _ _).2) only [x40_15, x40_16, x40_17, x40_18, x40_21, x40_23, kb_some, kb_none, clr_vi, clr_ref, clr_null, clr_none, va_rf_some, va_rf_none, ↓bi_ite_t, ↓bi_ite_f, ↓jc_lt_t, ↓jc_lt_f, ↓jc_gt_t, ↓jc_gt_f, ↓jc_le_t, ↓jc_le_f, ↓jc_ge_t, ↓jc_ge_f, ↓jc_eq_t, ↓jc_eq_f, ↓if_pos, ↓if_neg, Int.reduceToNat, tl_14, tk_14, jf1, kf1, rf1]
  -- 2
  obtain ⟨R2, hR2⟩ : ∃ X, X = mm_up R1 12 1 (some 14) := ⟨_, rfl⟩
  rw [← hR2] at e1 c2
  have hp : PR 12 R2 := by
    intro j q h
    match j, h with
    | 0, h => exact ((congrFun (congrFun hR2 12) _).trans ((up_j (by decide)).trans ((congrFun (congrFun hR1 12) _).trans (up_s)))).trans h
    | 1, h => exact ((congrFun (congrFun hR2 12) _).trans (up_s)).trans h
    | 2, h => exact nomatch (show (none : Option Nat) = some q from h)
    | j + 3, h => exact nomatch (show (none : Option Nat) = some q from h)
  refine ⟨R2, ?_, CS_IC c2 hp⟩
  simp (disch := first | assumption | omega | exact bi_lo | exact bi_hi | exact bi_01 | exact jcmp_lo | exact jcmp_hi | exact (jor_r _ _).1 | exact (jor_r _ _).2 | exact (jand_r _ _).1 | exact (jand_r _ _).2) only [x40_0, x40_1, kb_some, kb_none, clr_vi, clr_ref, clr_null, clr_none, va_rf_some, va_rf_none, ↓bi_ite_t, ↓bi_ite_f, ↓jc_lt_t, ↓jc_lt_f, ↓jc_gt_t, ↓jc_gt_f, ↓jc_le_t, ↓jc_le_f, ↓jc_ge_t, ↓jc_ge_f, ↓jc_eq_t, ↓jc_eq_f, ↓if_pos, ↓if_neg]
  rw [e0, e1]
  simp (disch := first | assumption | omega | exact bi_lo | exact bi_hi | exact bi_01 | exact jcmp_lo | exact jcmp_hi | exact (jor_r _ _).1 | exact (jor_r _ _).2 | exact (jand_r _ _).1 | exact (jand_r _ _).2) only [x40_26, kb_some, kb_none, clr_vi, clr_ref, clr_null, clr_none, va_rf_some, va_rf_none, ↓bi_ite_t, ↓bi_ite_f, ↓jc_lt_t, ↓jc_lt_f, ↓jc_gt_t, ↓jc_gt_f, ↓jc_le_t, ↓jc_le_f, ↓jc_ge_t, ↓jc_ge_f, ↓jc_eq_t, ↓jc_eq_f, ↓if_pos, ↓if_neg]
theorem ci_5 (h : FRS 4 J K R) : ∃ R', EE (d + 1) 54 0 [some (.ref 3)] [] (TS L 4) J K R = ok none (TS L 15) J K R' ∧ IC 3 4 15 J K R R' := by
  have c0 : CS 3 4 4 0 J K R R := CS_0 h
  have jf0 := (fr_rw0 c0.1).1
  have kf0 := (fr_rw0 c0.1).2.1
  have rf0 := (fr_rw0 c0.1).2.2
  obtain ⟨Q0, q0, w0⟩ := ci_1 (L := L) (d := d) (J := J) (K := K) (R := R) (FRS_1 c0.1)
  have c1 := CS_obj (f := 0) c0 w0 (by omega) (by omega) (by omega)
  have e0 : EE (d + 1) 54 4 [some (.ref 3)] [] (TS L 4) J K R = EE (d + 1) 54 17 [some (.ref 3)] [] (TS L 6) J K (mm_up Q0 3 0 (some 4)) := by
    have s3 : (TS L 6)[3]? = some (6, 4) := rfl
    have s4 : (TS L 5)[4]? = some (0, 2) := rfl
    simp (disch := first | assumption | omega | exact bi_lo | exact bi_hi | exact bi_01 | exact jcmp_lo | exact jcmp_hi | exact (jor_r _ _).1 | exact (jor_r _ _).2 | exact (jand_r _ _).1 | exact (jand_r _ _).2) only [x54_4, x54_5, x54_8, x54_9, x54_11, x54_14, kb_some, kb_none, clr_vi, clr_ref, clr_null, clr_none, va_rf_some, va_rf_none, ↓bi_ite_t, ↓bi_ite_f, ↓jc_lt_t, ↓jc_lt_f, ↓jc_gt_t, ↓jc_gt_f, ↓jc_le_t, ↓jc_le_f, ↓jc_ge_t, ↓jc_ge_f, ↓jc_eq_t, ↓jc_eq_f, ↓if_pos, ↓if_neg, Int.reduceToNat, tl_4, tk_4, jf0, kf0, rf0, q0]
  -- 1
  obtain ⟨R1, hR1⟩ : ∃ X, X = mm_up Q0 3 0 (some 4) := ⟨_, rfl⟩
  rw [← hR1] at e0 c1
  have jf1 := (fr_rw0 c1.1).1
  have kf1 := (fr_rw0 c1.1).2.1
  have rf1 := (fr_rw0 c1.1).2.2
  obtain ⟨Q1, q1, w1⟩ := ci_2 (L := L) (d := d) (J := J) (K := K) (R := R1) (FRS_1 c1.1)
  have c2 := CS_obj (f := 1) c1 w1 (by omega) (by omega) (by omega)
  have e1 : EE (d + 1) 54 17 [some (.ref 3)] [] (TS L 6) J K R1 = EE (d + 1) 54 29 [some (.ref 3)] [] (TS L 9) J K (mm_up Q1 3 1 (some 6)) := by
    have s3 : (TS L 9)[3]? = some (6, 4) := rfl
    have s6 : (TS L 7)[6]? = some (4, 3) := rfl
    simp (disch := first | assumption | omega | exact bi_lo | exact bi_hi | exact bi_01 | exact jcmp_lo | exact jcmp_hi | exact (jor_r _ _).1 | exact (jor_r _ _).2 | exact (jand_r _ _).1 | exact (jand_r _ _).2) only [x54_17, x54_18, x54_21, x54_22, x54_23, x54_26, kb_some, kb_none, clr_vi, clr_ref, clr_null, clr_none, va_rf_some, va_rf_none, ↓bi_ite_t, ↓bi_ite_f, ↓jc_lt_t, ↓jc_lt_f, ↓jc_gt_t, ↓jc_gt_f, ↓jc_le_t, ↓jc_le_f, ↓jc_ge_t, ↓jc_ge_f, ↓jc_eq_t, ↓jc_eq_f, ↓if_pos, ↓if_neg, Int.reduceToNat, tl_6, tk_6, jf1, kf1, rf1, q1]
  -- 2
  obtain ⟨R2, hR2⟩ : ∃ X, X = mm_up Q1 3 1 (some 6) := ⟨_, rfl⟩
  rw [← hR2] at e1 c2
  have jf2 := (fr_rw0 c2.1).1
  have kf2 := (fr_rw0 c2.1).2.1
  have rf2 := (fr_rw0 c2.1).2.2
  obtain ⟨Q2, q2, w2⟩ := ci_3 (L := L) (d := d) (J := J) (K := K) (R := R2) (FRS_1 c2.1)
  have c3 := CS_obj (f := 2) c2 w2 (by omega) (by omega) (by omega)
  have e2 : EE (d + 1) 54 29 [some (.ref 3)] [] (TS L 9) J K R2 = EE (d + 1) 54 42 [some (.ref 3)] [] (TS L 12) J K (mm_up Q2 3 2 (some 9)) := by
    have s3 : (TS L 12)[3]? = some (6, 4) := rfl
    have s9 : (TS L 10)[9]? = some (4, 3) := rfl
    simp (disch := first | assumption | omega | exact bi_lo | exact bi_hi | exact bi_01 | exact jcmp_lo | exact jcmp_hi | exact (jor_r _ _).1 | exact (jor_r _ _).2 | exact (jand_r _ _).1 | exact (jand_r _ _).2) only [x54_29, x54_30, x54_33, x54_34, x54_36, x54_39, kb_some, kb_none, clr_vi, clr_ref, clr_null, clr_none, va_rf_some, va_rf_none, ↓bi_ite_t, ↓bi_ite_f, ↓jc_lt_t, ↓jc_lt_f, ↓jc_gt_t, ↓jc_gt_f, ↓jc_le_t, ↓jc_le_f, ↓jc_ge_t, ↓jc_ge_f, ↓jc_eq_t, ↓jc_eq_f, ↓if_pos, ↓if_neg, Int.reduceToNat, tl_9, tk_9, jf2, kf2, rf2, q2]
  -- 3
  obtain ⟨R3, hR3⟩ : ∃ X, X = mm_up Q2 3 2 (some 9) := ⟨_, rfl⟩
  rw [← hR3] at e2 c3
  have jf3 := (fr_rw0 c3.1).1
  have kf3 := (fr_rw0 c3.1).2.1
  have rf3 := (fr_rw0 c3.1).2.2
  obtain ⟨Q3, q3, w3⟩ := ci_4 (L := L) (d := d) (J := J) (K := K) (R := R3) (FRS_1 c3.1)
  have c4 := CS_obj (f := 3) c3 w3 (by omega) (by omega) (by omega)
  have e3 : EE (d + 1) 54 42 [some (.ref 3)] [] (TS L 12) J K R3 = EE (d + 1) 54 55 [some (.ref 3)] [] (TS L 15) J K (mm_up Q3 3 3 (some 12)) := by
    have s3 : (TS L 15)[3]? = some (6, 4) := rfl
    have s12 : (TS L 13)[12]? = some (4, 3) := rfl
    simp (disch := first | assumption | omega | exact bi_lo | exact bi_hi | exact bi_01 | exact jcmp_lo | exact jcmp_hi | exact (jor_r _ _).1 | exact (jor_r _ _).2 | exact (jand_r _ _).1 | exact (jand_r _ _).2) only [x54_42, x54_43, x54_46, x54_47, x54_49, x54_52, kb_some, kb_none, clr_vi, clr_ref, clr_null, clr_none, va_rf_some, va_rf_none, ↓bi_ite_t, ↓bi_ite_f, ↓jc_lt_t, ↓jc_lt_f, ↓jc_gt_t, ↓jc_gt_f, ↓jc_le_t, ↓jc_le_f, ↓jc_ge_t, ↓jc_ge_f, ↓jc_eq_t, ↓jc_eq_f, ↓if_pos, ↓if_neg, Int.reduceToNat, tl_12, tk_12, jf3, kf3, rf3, q3]
  -- 4
  obtain ⟨R4, hR4⟩ : ∃ X, X = mm_up Q3 3 3 (some 12) := ⟨_, rfl⟩
  rw [← hR4] at e3 c4
  have hp : PR 3 R4 := by
    intro j q h
    match j, h with
    | 0, h => exact ((congrFun (congrFun hR4 3) _).trans ((up_j (by decide)).trans ((congrFun (w3.1 3 (by decide) (by decide)) _).trans ((congrFun (congrFun hR3 3) _).trans ((up_j (by decide)).trans ((congrFun (w2.1 3 (by decide) (by decide)) _).trans ((congrFun (congrFun hR2 3) _).trans ((up_j (by decide)).trans ((congrFun (w1.1 3 (by decide) (by decide)) _).trans ((congrFun (congrFun hR1 3) _).trans (up_s))))))))))).trans h
    | 1, h => exact ((congrFun (congrFun hR4 3) _).trans ((up_j (by decide)).trans ((congrFun (w3.1 3 (by decide) (by decide)) _).trans ((congrFun (congrFun hR3 3) _).trans ((up_j (by decide)).trans ((congrFun (w2.1 3 (by decide) (by decide)) _).trans ((congrFun (congrFun hR2 3) _).trans (up_s)))))))).trans h
    | 2, h => exact ((congrFun (congrFun hR4 3) _).trans ((up_j (by decide)).trans ((congrFun (w3.1 3 (by decide) (by decide)) _).trans ((congrFun (congrFun hR3 3) _).trans (up_s))))).trans h
    | 3, h => exact ((congrFun (congrFun hR4 3) _).trans (up_s)).trans h
    | j + 4, h => exact nomatch (show (none : Option Nat) = some q from h)
  refine ⟨R4, ?_, CS_IC c4 hp⟩
  simp (disch := first | assumption | omega | exact bi_lo | exact bi_hi | exact bi_01 | exact jcmp_lo | exact jcmp_hi | exact (jor_r _ _).1 | exact (jor_r _ _).2 | exact (jand_r _ _).1 | exact (jand_r _ _).2) only [x54_0, x54_1, kb_some, kb_none, clr_vi, clr_ref, clr_null, clr_none, va_rf_some, va_rf_none, ↓bi_ite_t, ↓bi_ite_f, ↓jc_lt_t, ↓jc_lt_f, ↓jc_gt_t, ↓jc_gt_f, ↓jc_le_t, ↓jc_le_f, ↓jc_ge_t, ↓jc_ge_f, ↓jc_eq_t, ↓jc_eq_f, ↓if_pos, ↓if_neg]
  rw [e0, e1, e2, e3]
  simp (disch := first | assumption | omega | exact bi_lo | exact bi_hi | exact bi_01 | exact jcmp_lo | exact jcmp_hi | exact (jor_r _ _).1 | exact (jor_r _ _).2 | exact (jand_r _ _).1 | exact (jand_r _ _).2) only [x54_55, kb_some, kb_none, clr_vi, clr_ref, clr_null, clr_none, va_rf_some, va_rf_none, ↓bi_ite_t, ↓bi_ite_f, ↓jc_lt_t, ↓jc_lt_f, ↓jc_gt_t, ↓jc_gt_f, ↓jc_le_t, ↓jc_le_f, ↓jc_ge_t, ↓jc_ge_f, ↓jc_eq_t, ↓jc_eq_f, ↓if_pos, ↓if_neg]
theorem ci_6 (h : FRS 17 J K R) : ∃ R', EE (d) 0 0 [some (.ref 16), some (vi 120)] [] (TS L 17) J K R = ok none (TS L 18) J K R' ∧ IC 16 17 18 J K R R' := by
  have c0 : CS 16 17 17 0 J K R R := CS_0 h
  have jf0 := (fr_rw0 c0.1).1
  have kf0 := (fr_rw0 c0.1).2.1
  have rf0 := (fr_rw0 c0.1).2.2
  have c1 := CS_arr (f := 0) c0 (by omega) (by omega) R0_17
  have e0 : EE (d) 0 4 [some (.ref 16), some (vi 120)] [] (TS L 17) J K R = EE (d) 0 15 [some (.ref 16), some (vi 120)] [] (TS L 18) J K (mm_up R 16 0 (some 17)) := by
    have s16 : (TS L 18)[16]? = some (0, 2) := rfl
    simp (disch := first | assumption | omega | exact bi_lo | exact bi_hi | exact bi_01 | exact jcmp_lo | exact jcmp_hi | exact (jor_r _ _).1 | exact (jor_r _ _).2 | exact (jand_r _ _).1 | exact (jand_r _ _).2) only [x0_4, x0_5, x0_6, x0_7, x0_10, x0_12, kb_some, kb_none, clr_vi, clr_ref, clr_null, clr_none, va_rf_some, va_rf_none, ↓bi_ite_t, ↓bi_ite_f, ↓jc_lt_t, ↓jc_lt_f, ↓jc_gt_t, ↓jc_gt_f, ↓jc_le_t, ↓jc_le_f, ↓jc_ge_t, ↓jc_ge_f, ↓jc_eq_t, ↓jc_eq_f, ↓if_pos, ↓if_neg, Int.reduceToNat, tl_17, tk_17, jf0, kf0, rf0]
  -- 1
  obtain ⟨R1, hR1⟩ : ∃ X, X = mm_up R 16 0 (some 17) := ⟨_, rfl⟩
  rw [← hR1] at e0 c1
  have hp : PR 16 R1 := by
    intro j q h
    match j, h with
    | 0, h => exact ((congrFun (congrFun hR1 16) _).trans (up_s)).trans h
    | 1, h => exact nomatch (show (none : Option Nat) = some q from h)
    | j + 2, h => exact nomatch (show (none : Option Nat) = some q from h)
  refine ⟨R1, ?_, CS_IC c1 hp⟩
  simp (disch := first | assumption | omega | exact bi_lo | exact bi_hi | exact bi_01 | exact jcmp_lo | exact jcmp_hi | exact (jor_r _ _).1 | exact (jor_r _ _).2 | exact (jand_r _ _).1 | exact (jand_r _ _).2) only [x0_0, x0_1, kb_some, kb_none, clr_vi, clr_ref, clr_null, clr_none, va_rf_some, va_rf_none, ↓bi_ite_t, ↓bi_ite_f, ↓jc_lt_t, ↓jc_lt_f, ↓jc_gt_t, ↓jc_gt_f, ↓jc_le_t, ↓jc_le_f, ↓jc_ge_t, ↓jc_ge_f, ↓jc_eq_t, ↓jc_eq_f, ↓if_pos, ↓if_neg]
  rw [e0]
  simp (disch := first | assumption | omega | exact bi_lo | exact bi_hi | exact bi_01 | exact jcmp_lo | exact jcmp_hi | exact (jor_r _ _).1 | exact (jor_r _ _).2 | exact (jand_r _ _).1 | exact (jand_r _ _).2) only [x0_15, kb_some, kb_none, clr_vi, clr_ref, clr_null, clr_none, va_rf_some, va_rf_none, ↓bi_ite_t, ↓bi_ite_f, ↓jc_lt_t, ↓jc_lt_f, ↓jc_gt_t, ↓jc_gt_f, ↓jc_le_t, ↓jc_le_f, ↓jc_ge_t, ↓jc_ge_f, ↓jc_eq_t, ↓jc_eq_f, ↓if_pos, ↓if_neg]
theorem ci_7 (h : FRS 19 J K R) : ∃ R', EE (d) 40 0 [some (.ref 18), some (vi 5)] [] (TS L 19) J K R = ok none (TS L 21) J K R' ∧ IC 18 19 21 J K R R' := by
  have c0 : CS 18 19 19 0 J K R R := CS_0 h
  have jf0 := (fr_rw0 c0.1).1
  have kf0 := (fr_rw0 c0.1).2.1
  have rf0 := (fr_rw0 c0.1).2.2
  have c1 := CS_arr (f := 0) c0 (by omega) (by omega) R0_19
  have e0 : EE (d) 40 4 [some (.ref 18), some (vi 5)] [] (TS L 19) J K R = EE (d) 40 15 [some (.ref 18), some (vi 5)] [] (TS L 20) J K (mm_up R 18 0 (some 19)) := by
    have s18 : (TS L 20)[18]? = some (4, 3) := rfl
    simp (disch := first | assumption | omega | exact bi_lo | exact bi_hi | exact bi_01 | exact jcmp_lo | exact jcmp_hi | exact (jor_r _ _).1 | exact (jor_r _ _).2 | exact (jand_r _ _).1 | exact (jand_r _ _).2) only [x40_4, x40_5, x40_6, x40_7, x40_10, x40_12, kb_some, kb_none, clr_vi, clr_ref, clr_null, clr_none, va_rf_some, va_rf_none, ↓bi_ite_t, ↓bi_ite_f, ↓jc_lt_t, ↓jc_lt_f, ↓jc_gt_t, ↓jc_gt_f, ↓jc_le_t, ↓jc_le_f, ↓jc_ge_t, ↓jc_ge_f, ↓jc_eq_t, ↓jc_eq_f, ↓if_pos, ↓if_neg, Int.reduceToNat, tl_19, tk_19, jf0, kf0, rf0]
  -- 1
  obtain ⟨R1, hR1⟩ : ∃ X, X = mm_up R 18 0 (some 19) := ⟨_, rfl⟩
  rw [← hR1] at e0 c1
  have jf1 := (fr_rw0 c1.1).1
  have kf1 := (fr_rw0 c1.1).2.1
  have rf1 := (fr_rw0 c1.1).2.2
  have c2 := CS_arr (f := 1) c1 (by omega) (by omega) R0_20
  have e1 : EE (d) 40 15 [some (.ref 18), some (vi 5)] [] (TS L 20) J K R1 = EE (d) 40 26 [some (.ref 18), some (vi 5)] [] (TS L 21) J K (mm_up R1 18 1 (some 20)) := by
    have s18 : (TS L 21)[18]? = some (4, 3) := rfl
    simp (disch := first | assumption | omega | exact bi_lo | exact bi_hi | exact bi_01 | exact jcmp_lo | exact jcmp_hi | exact (jor_r _ _).1 | exact (jor_r _ _).2 | exact (jand_r _ _).1 | exact (jand_r _ _).2) only [x40_15, x40_16, x40_17, x40_18, x40_21, x40_23, kb_some, kb_none, clr_vi, clr_ref, clr_null, clr_none, va_rf_some, va_rf_none, ↓bi_ite_t, ↓bi_ite_f, ↓jc_lt_t, ↓jc_lt_f, ↓jc_gt_t, ↓jc_gt_f, ↓jc_le_t, ↓jc_le_f, ↓jc_ge_t, ↓jc_ge_f, ↓jc_eq_t, ↓jc_eq_f, ↓if_pos, ↓if_neg, Int.reduceToNat, tl_20, tk_20, jf1, kf1, rf1]
  -- 2
  obtain ⟨R2, hR2⟩ : ∃ X, X = mm_up R1 18 1 (some 20) := ⟨_, rfl⟩
  rw [← hR2] at e1 c2
  have hp : PR 18 R2 := by
    intro j q h
    match j, h with
    | 0, h => exact ((congrFun (congrFun hR2 18) _).trans ((up_j (by decide)).trans ((congrFun (congrFun hR1 18) _).trans (up_s)))).trans h
    | 1, h => exact ((congrFun (congrFun hR2 18) _).trans (up_s)).trans h
    | 2, h => exact nomatch (show (none : Option Nat) = some q from h)
    | j + 3, h => exact nomatch (show (none : Option Nat) = some q from h)
  refine ⟨R2, ?_, CS_IC c2 hp⟩
  simp (disch := first | assumption | omega | exact bi_lo | exact bi_hi | exact bi_01 | exact jcmp_lo | exact jcmp_hi | exact (jor_r _ _).1 | exact (jor_r _ _).2 | exact (jand_r _ _).1 | exact (jand_r _ _).2) only [x40_0, x40_1, kb_some, kb_none, clr_vi, clr_ref, clr_null, clr_none, va_rf_some, va_rf_none, ↓bi_ite_t, ↓bi_ite_f, ↓jc_lt_t, ↓jc_lt_f, ↓jc_gt_t, ↓jc_gt_f, ↓jc_le_t, ↓jc_le_f, ↓jc_ge_t, ↓jc_ge_f, ↓jc_eq_t, ↓jc_eq_f, ↓if_pos, ↓if_neg]
  rw [e0, e1]
  simp (disch := first | assumption | omega | exact bi_lo | exact bi_hi | exact bi_01 | exact jcmp_lo | exact jcmp_hi | exact (jor_r _ _).1 | exact (jor_r _ _).2 | exact (jand_r _ _).1 | exact (jand_r _ _).2) only [x40_26, kb_some, kb_none, clr_vi, clr_ref, clr_null, clr_none, va_rf_some, va_rf_none, ↓bi_ite_t, ↓bi_ite_f, ↓jc_lt_t, ↓jc_lt_f, ↓jc_gt_t, ↓jc_gt_f, ↓jc_le_t, ↓jc_le_f, ↓jc_ge_t, ↓jc_ge_f, ↓jc_eq_t, ↓jc_eq_f, ↓if_pos, ↓if_neg]
theorem ci_8 (h : FRS 22 J K R) : ∃ R', EE (d) 40 0 [some (.ref 21), some (vi 10)] [] (TS L 22) J K R = ok none (TS L 24) J K R' ∧ IC 21 22 24 J K R R' := by
  have c0 : CS 21 22 22 0 J K R R := CS_0 h
  have jf0 := (fr_rw0 c0.1).1
  have kf0 := (fr_rw0 c0.1).2.1
  have rf0 := (fr_rw0 c0.1).2.2
  have c1 := CS_arr (f := 0) c0 (by omega) (by omega) R0_22
  have e0 : EE (d) 40 4 [some (.ref 21), some (vi 10)] [] (TS L 22) J K R = EE (d) 40 15 [some (.ref 21), some (vi 10)] [] (TS L 23) J K (mm_up R 21 0 (some 22)) := by
    have s21 : (TS L 23)[21]? = some (4, 3) := rfl
    simp (disch := first | assumption | omega | exact bi_lo | exact bi_hi | exact bi_01 | exact jcmp_lo | exact jcmp_hi | exact (jor_r _ _).1 | exact (jor_r _ _).2 | exact (jand_r _ _).1 | exact (jand_r _ _).2) only [x40_4, x40_5, x40_6, x40_7, x40_10, x40_12, kb_some, kb_none, clr_vi, clr_ref, clr_null, clr_none, va_rf_some, va_rf_none, ↓bi_ite_t, ↓bi_ite_f, ↓jc_lt_t, ↓jc_lt_f, ↓jc_gt_t, ↓jc_gt_f, ↓jc_le_t, ↓jc_le_f, ↓jc_ge_t, ↓jc_ge_f, ↓jc_eq_t, ↓jc_eq_f, ↓if_pos, ↓if_neg, Int.reduceToNat, tl_22, tk_22, jf0, kf0, rf0]
  -- 1
  obtain ⟨R1, hR1⟩ : ∃ X, X = mm_up R 21 0 (some 22) := ⟨_, rfl⟩
  rw [← hR1] at e0 c1
  have jf1 := (fr_rw0 c1.1).1
  have kf1 := (fr_rw0 c1.1).2.1
  have rf1 := (fr_rw0 c1.1).2.2
  have c2 := CS_arr (f := 1) c1 (by omega) (by omega) R0_23
  have e1 : EE (d) 40 15 [some (.ref 21), some (vi 10)] [] (TS L 23) J K R1 = EE (d) 40 26 [some (.ref 21), some (vi 10)] [] (TS L 24) J K (mm_up R1 21 1 (some 23)) := by
    have s21 : (TS L 24)[21]? = some (4, 3) := rfl
    simp (disch := first | assumption | omega | exact bi_lo | exact bi_hi | exact bi_01 | exact jcmp_lo | exact jcmp_hi | exact (jor_r _ _).1 | exact (jor_r _ _).2 | exact (jand_r _ _).1 | exact (jand_r _ _).2) only [x40_15, x40_16, x40_17, x40_18, x40_21, x40_23, kb_some, kb_none, clr_vi, clr_ref, clr_null, clr_none, va_rf_some, va_rf_none, ↓bi_ite_t, ↓bi_ite_f, ↓jc_lt_t, ↓jc_lt_f, ↓jc_gt_t, ↓jc_gt_f, ↓jc_le_t, ↓jc_le_f, ↓jc_ge_t, ↓jc_ge_f, ↓jc_eq_t, ↓jc_eq_f, ↓if_pos, ↓if_neg, Int.reduceToNat, tl_23, tk_23, jf1, kf1, rf1]
  -- 2
  obtain ⟨R2, hR2⟩ : ∃ X, X = mm_up R1 21 1 (some 23) := ⟨_, rfl⟩
  rw [← hR2] at e1 c2
  have hp : PR 21 R2 := by
    intro j q h
    match j, h with
    | 0, h => exact ((congrFun (congrFun hR2 21) _).trans ((up_j (by decide)).trans ((congrFun (congrFun hR1 21) _).trans (up_s)))).trans h
    | 1, h => exact ((congrFun (congrFun hR2 21) _).trans (up_s)).trans h
    | 2, h => exact nomatch (show (none : Option Nat) = some q from h)
    | j + 3, h => exact nomatch (show (none : Option Nat) = some q from h)
  refine ⟨R2, ?_, CS_IC c2 hp⟩
  simp (disch := first | assumption | omega | exact bi_lo | exact bi_hi | exact bi_01 | exact jcmp_lo | exact jcmp_hi | exact (jor_r _ _).1 | exact (jor_r _ _).2 | exact (jand_r _ _).1 | exact (jand_r _ _).2) only [x40_0, x40_1, kb_some, kb_none, clr_vi, clr_ref, clr_null, clr_none, va_rf_some, va_rf_none, ↓bi_ite_t, ↓bi_ite_f, ↓jc_lt_t, ↓jc_lt_f, ↓jc_gt_t, ↓jc_gt_f, ↓jc_le_t, ↓jc_le_f, ↓jc_ge_t, ↓jc_ge_f, ↓jc_eq_t, ↓jc_eq_f, ↓if_pos, ↓if_neg]
  rw [e0, e1]
  simp (disch := first | assumption | omega | exact bi_lo | exact bi_hi | exact bi_01 | exact jcmp_lo | exact jcmp_hi | exact (jor_r _ _).1 | exact (jor_r _ _).2 | exact (jand_r _ _).1 | exact (jand_r _ _).2) only [x40_26, kb_some, kb_none, clr_vi, clr_ref, clr_null, clr_none, va_rf_some, va_rf_none, ↓bi_ite_t, ↓bi_ite_f, ↓jc_lt_t, ↓jc_lt_f, ↓jc_gt_t, ↓jc_gt_f, ↓jc_le_t, ↓jc_le_f, ↓jc_ge_t, ↓jc_ge_f, ↓jc_eq_t, ↓jc_eq_f, ↓if_pos, ↓if_neg]
theorem ci_9 (h : FRS 25 J K R) : ∃ R', EE (d) 40 0 [some (.ref 24), some (vi 8)] [] (TS L 25) J K R = ok none (TS L 27) J K R' ∧ IC 24 25 27 J K R R' := by
  have c0 : CS 24 25 25 0 J K R R := CS_0 h
  have jf0 := (fr_rw0 c0.1).1
  have kf0 := (fr_rw0 c0.1).2.1
  have rf0 := (fr_rw0 c0.1).2.2
  have c1 := CS_arr (f := 0) c0 (by omega) (by omega) R0_25
  have e0 : EE (d) 40 4 [some (.ref 24), some (vi 8)] [] (TS L 25) J K R = EE (d) 40 15 [some (.ref 24), some (vi 8)] [] (TS L 26) J K (mm_up R 24 0 (some 25)) := by
    have s24 : (TS L 26)[24]? = some (4, 3) := rfl
    simp (disch := first | assumption | omega | exact bi_lo | exact bi_hi | exact bi_01 | exact jcmp_lo | exact jcmp_hi | exact (jor_r _ _).1 | exact (jor_r _ _).2 | exact (jand_r _ _).1 | exact (jand_r _ _).2) only [x40_4, x40_5, x40_6, x40_7, x40_10, x40_12, kb_some, kb_none, clr_vi, clr_ref, clr_null, clr_none, va_rf_some, va_rf_none, ↓bi_ite_t, ↓bi_ite_f, ↓jc_lt_t, ↓jc_lt_f, ↓jc_gt_t, ↓jc_gt_f, ↓jc_le_t, ↓jc_le_f, ↓jc_ge_t, ↓jc_ge_f, ↓jc_eq_t, ↓jc_eq_f, ↓if_pos, ↓if_neg, Int.reduceToNat, tl_25, tk_25, jf0, kf0, rf0]
  -- 1
  obtain ⟨R1, hR1⟩ : ∃ X, X = mm_up R 24 0 (some 25) := ⟨_, rfl⟩
  rw [← hR1] at e0 c1
  have jf1 := (fr_rw0 c1.1).1
  have kf1 := (fr_rw0 c1.1).2.1
  have rf1 := (fr_rw0 c1.1).2.2
  have c2 := CS_arr (f := 1) c1 (by omega) (by omega) R0_26
  have e1 : EE (d) 40 15 [some (.ref 24), some (vi 8)] [] (TS L 26) J K R1 = EE (d) 40 26 [some (.ref 24), some (vi 8)] [] (TS L 27) J K (mm_up R1 24 1 (some 26)) := by
    have s24 : (TS L 27)[24]? = some (4, 3) := rfl
    simp (disch := first | assumption | omega | exact bi_lo | exact bi_hi | exact bi_01 | exact jcmp_lo | exact jcmp_hi | exact (jor_r _ _).1 | exact (jor_r _ _).2 | exact (jand_r _ _).1 | exact (jand_r _ _).2) only [x40_15, x40_16, x40_17, x40_18, x40_21, x40_23, kb_some, kb_none, clr_vi, clr_ref, clr_null, clr_none, va_rf_some, va_rf_none, ↓bi_ite_t, ↓bi_ite_f, ↓jc_lt_t, ↓jc_lt_f, ↓jc_gt_t, ↓jc_gt_f, ↓jc_le_t, ↓jc_le_f, ↓jc_ge_t, ↓jc_ge_f, ↓jc_eq_t, ↓jc_eq_f, ↓if_pos, ↓if_neg, Int.reduceToNat, tl_26, tk_26, jf1, kf1, rf1]
  -- 2
  obtain ⟨R2, hR2⟩ : ∃ X, X = mm_up R1 24 1 (some 26) := ⟨_, rfl⟩
  rw [← hR2] at e1 c2
  have hp : PR 24 R2 := by
    intro j q h
    match j, h with
    | 0, h => exact ((congrFun (congrFun hR2 24) _).trans ((up_j (by decide)).trans ((congrFun (congrFun hR1 24) _).trans (up_s)))).trans h
    | 1, h => exact ((congrFun (congrFun hR2 24) _).trans (up_s)).trans h
    | 2, h => exact nomatch (show (none : Option Nat) = some q from h)
    | j + 3, h => exact nomatch (show (none : Option Nat) = some q from h)
  refine ⟨R2, ?_, CS_IC c2 hp⟩
  simp (disch := first | assumption | omega | exact bi_lo | exact bi_hi | exact bi_01 | exact jcmp_lo | exact jcmp_hi | exact (jor_r _ _).1 | exact (jor_r _ _).2 | exact (jand_r _ _).1 | exact (jand_r _ _).2) only [x40_0, x40_1, kb_some, kb_none, clr_vi, clr_ref, clr_null, clr_none, va_rf_some, va_rf_none, ↓bi_ite_t, ↓bi_ite_f, ↓jc_lt_t, ↓jc_lt_f, ↓jc_gt_t, ↓jc_gt_f, ↓jc_le_t, ↓jc_le_f, ↓jc_ge_t, ↓jc_ge_f, ↓jc_eq_t, ↓jc_eq_f, ↓if_pos, ↓if_neg]
  rw [e0, e1]
  simp (disch := first | assumption | omega | exact bi_lo | exact bi_hi | exact bi_01 | exact jcmp_lo | exact jcmp_hi | exact (jor_r _ _).1 | exact (jor_r _ _).2 | exact (jand_r _ _).1 | exact (jand_r _ _).2) only [x40_26, kb_some, kb_none, clr_vi, clr_ref, clr_null, clr_none, va_rf_some, va_rf_none, ↓bi_ite_t, ↓bi_ite_f, ↓jc_lt_t, ↓jc_lt_f, ↓jc_gt_t, ↓jc_gt_f, ↓jc_le_t, ↓jc_le_f, ↓jc_ge_t, ↓jc_ge_f, ↓jc_eq_t, ↓jc_eq_f, ↓if_pos, ↓if_neg]
theorem ci_10 (h : FRS 16 J K R) : ∃ R', EE (d + 1) 54 0 [some (.ref 15)] [] (TS L 16) J K R = ok none (TS L 27) J K R' ∧ IC 15 16 27 J K R R' := by
  have c0 : CS 15 16 16 0 J K R R := CS_0 h
  have jf0 := (fr_rw0 c0.1).1
  have kf0 := (fr_rw0 c0.1).2.1
  have rf0 := (fr_rw0 c0.1).2.2
  obtain ⟨Q0, q0, w0⟩ := ci_6 (L := L) (d := d) (J := J) (K := K) (R := R) (FRS_1 c0.1)
  have c1 := CS_obj (f := 0) c0 w0 (by omega) (by omega) (by omega)
  have e0 : EE (d + 1) 54 4 [some (.ref 15)] [] (TS L 16) J K R = EE (d + 1) 54 17 [some (.ref 15)] [] (TS L 18) J K (mm_up Q0 15 0 (some 16)) := by
    have s15 : (TS L 18)[15]? = some (6, 4) := rfl
    have s16 : (TS L 17)[16]? = some (0, 2) := rfl
    simp (disch := first | assumption | omega | exact bi_lo | exact bi_hi | exact bi_01 | exact jcmp_lo | exact jcmp_hi | exact (jor_r _ _).1 | exact (jor_r _ _).2 | exact (jand_r _ _).1 | exact (jand_r _ _).2) only [x54_4, x54_5, x54_8, x54_9, x54_11, x54_14, kb_some, kb_none, clr_vi, clr_ref, clr_null, clr_none, va_rf_some, va_rf_none, ↓bi_ite_t, ↓bi_ite_f, ↓jc_lt_t, ↓jc_lt_f, ↓jc_gt_t, ↓jc_gt_f, ↓jc_le_t, ↓jc_le_f, ↓jc_ge_t, ↓jc_ge_f, ↓jc_eq_t, ↓jc_eq_f, ↓if_pos, ↓if_neg, Int.reduceToNat, tl_16, tk_16, jf0, kf0, rf0, q0]
  -- 1
  obtain ⟨R1, hR1⟩ : ∃ X, X = mm_up Q0 15 0 (some 16) := ⟨_, rfl⟩
  rw [← hR1] at e0 c1
  have jf1 := (fr_rw0 c1.1).1
  have kf1 := (fr_rw0 c1.1).2.1
  have rf1 := (fr_rw0 c1.1).2.2
  obtain ⟨Q1, q1, w1⟩ := ci_7 (L := L) (d := d) (J := J) (K := K) (R := R1) (FRS_1 c1.1)
  have c2 := CS_obj (f := 1) c1 w1 (by omega) (by omega) (by omega)
  have e1 : EE (d + 1) 54 17 [some (.ref 15)] [] (TS L 18) J K R1 = EE (d + 1) 54 29 [some (.ref 15)] [] (TS L 21) J K (mm_up Q1 15 1 (some 18)) := by
    have s15 : (TS L 21)[15]? = some (6, 4) := rfl
    have s18 : (TS L 19)[18]? = some (4, 3) := rfl
    simp (disch := first | assumption | omega | exact bi_lo | exact bi_hi | exact bi_01 | exact jcmp_lo | exact jcmp_hi | exact (jor_r _ _).1 | exact (jor_r _ _).2 | exact (jand_r _ _).1 | exact (jand_r _ _).2) only [x54_17, x54_18, x54_21, x54_22, x54_23, x54_26, kb_some, kb_none, clr_vi, clr_ref, clr_null, clr_none, va_rf_some, va_rf_none, ↓bi_ite_t, ↓bi_ite_f, ↓jc_lt_t, ↓jc_lt_f, ↓jc_gt_t, ↓jc_gt_f, ↓jc_le_t, ↓jc_le_f, ↓jc_ge_t, ↓jc_ge_f, ↓jc_eq_t, ↓jc_eq_f, ↓if_pos, ↓if_neg, Int.reduceToNat, tl_18, tk_18, jf1, kf1, rf1, q1]
  -- 2
  obtain ⟨R2, hR2⟩ : ∃ X, X = mm_up Q1 15 1 (some 18) := ⟨_, rfl⟩
  rw [← hR2] at e1 c2
  have jf2 := (fr_rw0 c2.1).1
  have kf2 := (fr_rw0 c2.1).2.1
  have rf2 := (fr_rw0 c2.1).2.2
  obtain ⟨Q2, q2, w2⟩ := ci_8 (L := L) (d := d) (J := J) (K := K) (R := R2) (FRS_1 c2.1)
  have c3 := CS_obj (f := 2) c2 w2 (by omega) (by omega) (by omega)
  have e2 : EE (d + 1) 54 29 [some (.ref 15)] [] (TS L 21) J K R2 = EE (d + 1) 54 42 [some (.ref 15)] [] (TS L 24) J K (mm_up Q2 15 2 (some 21)) := by
    have s15 : (TS L 24)[15]? = some (6, 4) := rfl
    have s21 : (TS L 22)[21]? = some (4, 3) := rfl
    simp (disch := first | assumption | omega | exact bi_lo | exact bi_hi | exact bi_01 | exact jcmp_lo | exact jcmp_hi | exact (jor_r _ _).1 | exact (jor_r _ _).2 | exact (jand_r _ _).1 | exact (jand_r _ _).2) only [x54_29, x54_30, x54_33, x54_34, x54_36, x54_39, kb_some, kb_none, clr_vi, clr_ref, clr_null, clr_none, va_rf_some, va_rf_none, ↓bi_ite_t, ↓bi_ite_f, ↓jc_lt_t, ↓jc_lt_f, ↓jc_gt_t, ↓jc_gt_f, ↓jc_le_t, ↓jc_le_f, ↓jc_ge_t, ↓jc_ge_f, ↓jc_eq_t, ↓jc_eq_f, ↓if_pos, ↓if_neg, Int.reduceToNat, tl_21, tk_21, jf2, kf2, rf2, q2]
  -- 3
  obtain ⟨R3, hR3⟩ : ∃ X, X = mm_up Q2 15 2 (some 21) := ⟨_, rfl⟩
  rw [← hR3] at e2 c3
  have jf3 := (fr_rw0 c3.1).1
  have kf3 := (fr_rw0 c3.1).2.1
  have rf3 := (fr_rw0 c3.1).2.2
  obtain ⟨Q3, q3, w3⟩ := ci_9 (L := L) (d := d) (J := J) (K := K) (R := R3) (FRS_1 c3.1)
  have c4 := CS_obj (f := 3) c3 w3 (by omega) (by omega) (by omega)
  have e3 : EE (d + 1) 54 42 [some (.ref 15)] [] (TS L 24) J K R3 = EE (d + 1) 54 55 [some (.ref 15)] [] (TS L 27) J K (mm_up Q3 15 3 (some 24)) := by
    have s15 : (TS L 27)[15]? = some (6, 4) := rfl
    have s24 : (TS L 25)[24]? = some (4, 3) := rfl
    simp (disch := first | assumption | omega | exact bi_lo | exact bi_hi | exact bi_01 | exact jcmp_lo | exact jcmp_hi | exact (jor_r _ _).1 | exact (jor_r _ _).2 | exact (jand_r _ _).1 | exact (jand_r _ _).2) only [x54_42, x54_43, x54_46, x54_47, x54_49, x54_52, kb_some, kb_none, clr_vi, clr_ref, clr_null, clr_none, va_rf_some, va_rf_none, ↓bi_ite_t, ↓bi_ite_f, ↓jc_lt_t, ↓jc_lt_f, ↓jc_gt_t, ↓jc_gt_f, ↓jc_le_t, ↓jc_le_f, ↓jc_ge_t, ↓jc_ge_f, ↓jc_eq_t, ↓jc_eq_f, ↓if_pos, ↓if_neg, Int.reduceToNat, tl_24, tk_24, jf3, kf3, rf3, q3]
  -- 4
  obtain ⟨R4, hR4⟩ : ∃ X, X = mm_up Q3 15 3 (some 24) := ⟨_, rfl⟩
  rw [← hR4] at e3 c4
  have hp : PR 15 R4 := by
    intro j q h
    match j, h with
    | 0, h => exact ((congrFun (congrFun hR4 15) _).trans ((up_j (by decide)).trans ((congrFun (w3.1 15 (by decide) (by decide)) _).trans ((congrFun (congrFun hR3 15) _).trans ((up_j (by decide)).trans ((congrFun (w2.1 15 (by decide) (by decide)) _).trans ((congrFun (congrFun hR2 15) _).trans ((up_j (by decide)).trans ((congrFun (w1.1 15 (by decide) (by decide)) _).trans ((congrFun (congrFun hR1 15) _).trans (up_s))))))))))).trans h
    | 1, h => exact ((congrFun (congrFun hR4 15) _).trans ((up_j (by decide)).trans ((congrFun (w3.1 15 (by decide) (by decide)) _).trans ((congrFun (congrFun hR3 15) _).trans ((up_j (by decide)).trans ((congrFun (w2.1 15 (by decide) (by decide)) _).trans ((congrFun (congrFun hR2 15) _).trans (up_s)))))))).trans h
    | 2, h => exact ((congrFun (congrFun hR4 15) _).trans ((up_j (by decide)).trans ((congrFun (w3.1 15 (by decide) (by decide)) _).trans ((congrFun (congrFun hR3 15) _).trans (up_s))))).trans h
    | 3, h => exact ((congrFun (congrFun hR4 15) _).trans (up_s)).trans h
    | j + 4, h => exact nomatch (show (none : Option Nat) = some q from h)
  refine ⟨R4, ?_, CS_IC c4 hp⟩
  simp (disch := first | assumption | omega | exact bi_lo | exact bi_hi | exact bi_01 | exact jcmp_lo | exact jcmp_hi | exact (jor_r _ _).1 | exact (jor_r _ _).2 | exact (jand_r _ _).1 | exact (jand_r _ _).2) only [x54_0, x54_1, kb_some, kb_none, clr_vi, clr_ref, clr_null, clr_none, va_rf_some, va_rf_none, ↓bi_ite_t, ↓bi_ite_f, ↓jc_lt_t, ↓jc_lt_f, ↓jc_gt_t, ↓jc_gt_f, ↓jc_le_t, ↓jc_le_f, ↓jc_ge_t, ↓jc_ge_f, ↓jc_eq_t, ↓jc_eq_f, ↓if_pos, ↓if_neg]
  rw [e0, e1, e2, e3]
  simp (disch := first | assumption | omega | exact bi_lo | exact bi_hi | exact bi_01 | exact jcmp_lo | exact jcmp_hi | exact (jor_r _ _).1 | exact (jor_r _ _).2 | exact (jand_r _ _).1 | exact (jand_r _ _).2) only [x54_55, kb_some, kb_none, clr_vi, clr_ref, clr_null, clr_none, va_rf_some, va_rf_none, ↓bi_ite_t, ↓bi_ite_f, ↓jc_lt_t, ↓jc_lt_f, ↓jc_gt_t, ↓jc_gt_f, ↓jc_le_t, ↓jc_le_f, ↓jc_ge_t, ↓jc_ge_f, ↓jc_eq_t, ↓jc_eq_f, ↓if_pos, ↓if_neg]
theorem ci_11 (h : FRS 28 J K R) : ∃ R', EE (d) 0 0 [some (.ref 27), some (vi 100)] [] (TS L 28) J K R = ok none (TS L 29) J K R' ∧ IC 27 28 29 J K R R' := by
  have c0 : CS 27 28 28 0 J K R R := CS_0 h
  have jf0 := (fr_rw0 c0.1).1
  have kf0 := (fr_rw0 c0.1).2.1
  have rf0 := (fr_rw0 c0.1).2.2
  have c1 := CS_arr (f := 0) c0 (by omega) (by omega) R0_28
  have e0 : EE (d) 0 4 [some (.ref 27), some (vi 100)] [] (TS L 28) J K R = EE (d) 0 15 [some (.ref 27), some (vi 100)] [] (TS L 29) J K (mm_up R 27 0 (some 28)) := by
    have s27 : (TS L 29)[27]? = some (0, 2) := rfl
    simp (disch := first | assumption | omega | exact bi_lo | exact bi_hi | exact bi_01 | exact jcmp_lo | exact jcmp_hi | exact (jor_r _ _).1 | exact (jor_r _ _).2 | exact (jand_r _ _).1 | exact (jand_r _ _).2) only [x0_4, x0_5, x0_6, x0_7, x0_10, x0_12, kb_some, kb_none, clr_vi, clr_ref, clr_null, clr_none, va_rf_some, va_rf_none, ↓bi_ite_t, ↓bi_ite_f, ↓jc_lt_t, ↓jc_lt_f, ↓jc_gt_t, ↓jc_gt_f, ↓jc_le_t, ↓jc_le_f, ↓jc_ge_t, ↓jc_ge_f, ↓jc_eq_t, ↓jc_eq_f, ↓if_pos, ↓if_neg, Int.reduceToNat, tl_28, tk_28, jf0, kf0, rf0]
  -- 1
  obtain ⟨R1, hR1⟩ : ∃ X, X = mm_up R 27 0 (some 28) := ⟨_, rfl⟩
  rw [← hR1] at e0 c1
  have hp : PR 27 R1 := by
    intro j q h
    match j, h with
    | 0, h => exact ((congrFun (congrFun hR1 27) _).trans (up_s)).trans h
    | 1, h => exact nomatch (show (none : Option Nat) = some q from h)
    | j + 2, h => exact nomatch (show (none : Option Nat) = some q from h)
  refine ⟨R1, ?_, CS_IC c1 hp⟩
  simp (disch := first | assumption | omega | exact bi_lo | exact bi_hi | exact bi_01 | exact jcmp_lo | exact jcmp_hi | exact (jor_r _ _).1 | exact (jor_r _ _).2 | exact (jand_r _ _).1 | exact (jand_r _ _).2) only [x0_0, x0_1, kb_some, kb_none, clr_vi, clr_ref, clr_null, clr_none, va_rf_some, va_rf_none, ↓bi_ite_t, ↓bi_ite_f, ↓jc_lt_t, ↓jc_lt_f, ↓jc_gt_t, ↓jc_gt_f, ↓jc_le_t, ↓jc_le_f, ↓jc_ge_t, ↓jc_ge_f, ↓jc_eq_t, ↓jc_eq_f, ↓if_pos, ↓if_neg]
  rw [e0]
  simp (disch := first | assumption | omega | exact bi_lo | exact bi_hi | exact bi_01 | exact jcmp_lo | exact jcmp_hi | exact (jor_r _ _).1 | exact (jor_r _ _).2 | exact (jand_r _ _).1 | exact (jand_r _ _).2) only [x0_15, kb_some, kb_none, clr_vi, clr_ref, clr_null, clr_none, va_rf_some, va_rf_none, ↓bi_ite_t, ↓bi_ite_f, ↓jc_lt_t, ↓jc_lt_f, ↓jc_gt_t, ↓jc_gt_f, ↓jc_le_t, ↓jc_le_f, ↓jc_ge_t, ↓jc_ge_f, ↓jc_eq_t, ↓jc_eq_f, ↓if_pos, ↓if_neg]
theorem ci_12 (h : FRS 30 J K R) : ∃ R', EE (d) 0 0 [some (.ref 29), some (vi 120)] [] (TS L 30) J K R = ok none (TS L 31) J K R' ∧ IC 29 30 31 J K R R' := by
  have c0 : CS 29 30 30 0 J K R R := CS_0 h
  have jf0 := (fr_rw0 c0.1).1
  have kf0 := (fr_rw0 c0.1).2.1
  have rf0 := (fr_rw0 c0.1).2.2
  have c1 := CS_arr (f := 0) c0 (by omega) (by omega) R0_30
  have e0 : EE (d) 0 4 [some (.ref 29), some (vi 120)] [] (TS L 30) J K R = EE (d) 0 15 [some (.ref 29), some (vi 120)] [] (TS L 31) J K (mm_up R 29 0 (some 30)) := by
    have s29 : (TS L 31)[29]? = some (0, 2) := rfl
    simp (disch := first | assumption | omega | exact bi_lo | exact bi_hi | exact bi_01 | exact jcmp_lo | exact jcmp_hi | exact (jor_r _ _).1 | exact (jor_r _ _).2 | exact (jand_r _ _).1 | exact (jand_r _ _).2) only [x0_4, x0_5, x0_6, x0_7, x0_10, x0_12, kb_some, kb_none, clr_vi, clr_ref, clr_null, clr_none, va_rf_some, va_rf_none, ↓bi_ite_t, ↓bi_ite_f, ↓jc_lt_t, ↓jc_lt_f, ↓jc_gt_t, ↓jc_gt_f, ↓jc_le_t, ↓jc_le_f, ↓jc_ge_t, ↓jc_ge_f, ↓jc_eq_t, ↓jc_eq_f, ↓if_pos, ↓if_neg, Int.reduceToNat, tl_30, tk_30, jf0, kf0, rf0]
  -- 1
  obtain ⟨R1, hR1⟩ : ∃ X, X = mm_up R 29 0 (some 30) := ⟨_, rfl⟩
  rw [← hR1] at e0 c1
  have hp : PR 29 R1 := by
    intro j q h
    match j, h with
    | 0, h => exact ((congrFun (congrFun hR1 29) _).trans (up_s)).trans h
    | 1, h => exact nomatch (show (none : Option Nat) = some q from h)
    | j + 2, h => exact nomatch (show (none : Option Nat) = some q from h)
  refine ⟨R1, ?_, CS_IC c1 hp⟩
  simp (disch := first | assumption | omega | exact bi_lo | exact bi_hi | exact bi_01 | exact jcmp_lo | exact jcmp_hi | exact (jor_r _ _).1 | exact (jor_r _ _).2 | exact (jand_r _ _).1 | exact (jand_r _ _).2) only [x0_0, x0_1, kb_some, kb_none, clr_vi, clr_ref, clr_null, clr_none, va_rf_some, va_rf_none, ↓bi_ite_t, ↓bi_ite_f, ↓jc_lt_t, ↓jc_lt_f, ↓jc_gt_t, ↓jc_gt_f, ↓jc_le_t, ↓jc_le_f, ↓jc_ge_t, ↓jc_ge_f, ↓jc_eq_t, ↓jc_eq_f, ↓if_pos, ↓if_neg]
  rw [e0]
  simp (disch := first | assumption | omega | exact bi_lo | exact bi_hi | exact bi_01 | exact jcmp_lo | exact jcmp_hi | exact (jor_r _ _).1 | exact (jor_r _ _).2 | exact (jand_r _ _).1 | exact (jand_r _ _).2) only [x0_15, kb_some, kb_none, clr_vi, clr_ref, clr_null, clr_none, va_rf_some, va_rf_none, ↓bi_ite_t, ↓bi_ite_f, ↓jc_lt_t, ↓jc_lt_f, ↓jc_gt_t, ↓jc_gt_f, ↓jc_le_t, ↓jc_le_f, ↓jc_ge_t, ↓jc_ge_f, ↓jc_eq_t, ↓jc_eq_f, ↓if_pos, ↓if_neg]
theorem ci_13 (h : FRS 33 J K R) : ∃ R', EE (d) 9 0 [some (.ref 32)] [] (TS L 33) J K R = ok none (TS L 36) J K R' ∧ IC 32 33 36 J K R R' := by
  have c0 : CS 32 33 33 0 J K R R := CS_0 h
  have jf0 := (fr_rw0 c0.1).1
  have kf0 := (fr_rw0 c0.1).2.1
  have rf0 := (fr_rw0 c0.1).2.2
  have c1 := CS_arr (f := 0) c0 (by omega) (by omega) R0_33
  have e0 : EE (d) 9 4 [some (.ref 32)] [] (TS L 33) J K R = EE (d) 9 12 [some (.ref 32)] [] (TS L 34) J K (mm_up R 32 0 (some 33)) := by
    have s32 : (TS L 34)[32]? = some (1, 4) := rfl
    simp (disch := first | assumption | omega | exact bi_lo | exact bi_hi | exact bi_01 | exact jcmp_lo | exact jcmp_hi | exact (jor_r _ _).1 | exact (jor_r _ _).2 | exact (jand_r _ _).1 | exact (jand_r _ _).2) only [x9_4, x9_5, x9_7, x9_9, kb_some, kb_none, clr_vi, clr_ref, clr_null, clr_none, va_rf_some, va_rf_none, ↓bi_ite_t, ↓bi_ite_f, ↓jc_lt_t, ↓jc_lt_f, ↓jc_gt_t, ↓jc_gt_f, ↓jc_le_t, ↓jc_le_f, ↓jc_ge_t, ↓jc_ge_f, ↓jc_eq_t, ↓jc_eq_f, ↓if_pos, ↓if_neg, Int.reduceToNat, tl_33, tk_33, jf0, kf0, rf0]
  -- 1
  obtain ⟨R1, hR1⟩ : ∃ X, X = mm_up R 32 0 (some 33) := ⟨_, rfl⟩
  rw [← hR1] at e0 c1
  have jf1 := (fr_rw0 c1.1).1
  have kf1 := (fr_rw0 c1.1).2.1
  have rf1 := (fr_rw0 c1.1).2.2
  have c2 := CS_arr (f := 1) c1 (by omega) (by omega) R0_34
  have e1 : EE (d) 9 12 [some (.ref 32)] [] (TS L 34) J K R1 = EE (d) 9 20 [some (.ref 32)] [] (TS L 35) J K (mm_up R1 32 1 (some 34)) := by
    have s32 : (TS L 35)[32]? = some (1, 4) := rfl
    simp (disch := first | assumption | omega | exact bi_lo | exact bi_hi | exact bi_01 | exact jcmp_lo | exact jcmp_hi | exact (jor_r _ _).1 | exact (jor_r _ _).2 | exact (jand_r _ _).1 | exact (jand_r _ _).2) only [x9_12, x9_13, x9_15, x9_17, kb_some, kb_none, clr_vi, clr_ref, clr_null, clr_none, va_rf_some, va_rf_none, ↓bi_ite_t, ↓bi_ite_f, ↓jc_lt_t, ↓jc_lt_f, ↓jc_gt_t, ↓jc_gt_f, ↓jc_le_t, ↓jc_le_f, ↓jc_ge_t, ↓jc_ge_f, ↓jc_eq_t, ↓jc_eq_f, ↓if_pos, ↓if_neg, Int.reduceToNat, tl_34, tk_34, jf1, kf1, rf1]
  -- 2
  obtain ⟨R2, hR2⟩ : ∃ X, X = mm_up R1 32 1 (some 34) := ⟨_, rfl⟩
  rw [← hR2] at e1 c2
  have jf2 := (fr_rw0 c2.1).1
  have kf2 := (fr_rw0 c2.1).2.1
  have rf2 := (fr_rw0 c2.1).2.2
  have c3 := CS_arr (f := 2) c2 (by omega) (by omega) R0_35
  have e2 : EE (d) 9 20 [some (.ref 32)] [] (TS L 35) J K R2 = EE (d) 9 28 [some (.ref 32)] [] (TS L 36) J K (mm_up R2 32 2 (some 35)) := by
    have s32 : (TS L 36)[32]? = some (1, 4) := rfl
    simp (disch := first | assumption | omega | exact bi_lo | exact bi_hi | exact bi_01 | exact jcmp_lo | exact jcmp_hi | exact (jor_r _ _).1 | exact (jor_r _ _).2 | exact (jand_r _ _).1 | exact (jand_r _ _).2) only [x9_20, x9_21, x9_23, x9_25, kb_some, kb_none, clr_vi, clr_ref, clr_null, clr_none, va_rf_some, va_rf_none, ↓bi_ite_t, ↓bi_ite_f, ↓jc_lt_t, ↓jc_lt_f, ↓jc_gt_t, ↓jc_gt_f, ↓jc_le_t, ↓jc_le_f, ↓jc_ge_t, ↓jc_ge_f, ↓jc_eq_t, ↓jc_eq_f, ↓if_pos, ↓if_neg, Int.reduceToNat, tl_35, tk_35, jf2, kf2, rf2]
  -- 3
  obtain ⟨R3, hR3⟩ : ∃ X, X = mm_up R2 32 2 (some 35) := ⟨_, rfl⟩
  rw [← hR3] at e2 c3
  have hp : PR 32 R3 := by
    intro j q h
    match j, h with
    | 0, h => exact ((congrFun (congrFun hR3 32) _).trans ((up_j (by decide)).trans ((congrFun (congrFun hR2 32) _).trans ((up_j (by decide)).trans ((congrFun (congrFun hR1 32) _).trans (up_s)))))).trans h
    | 1, h => exact ((congrFun (congrFun hR3 32) _).trans ((up_j (by decide)).trans ((congrFun (congrFun hR2 32) _).trans (up_s)))).trans h
    | 2, h => exact ((congrFun (congrFun hR3 32) _).trans (up_s)).trans h
    | 3, h => exact nomatch (show (none : Option Nat) = some q from h)
    | j + 4, h => exact nomatch (show (none : Option Nat) = some q from h)
  refine ⟨R3, ?_, CS_IC c3 hp⟩
  simp (disch := first | assumption | omega | exact bi_lo | exact bi_hi | exact bi_01 | exact jcmp_lo | exact jcmp_hi | exact (jor_r _ _).1 | exact (jor_r _ _).2 | exact (jand_r _ _).1 | exact (jand_r _ _).2) only [x9_0, x9_1, kb_some, kb_none, clr_vi, clr_ref, clr_null, clr_none, va_rf_some, va_rf_none, ↓bi_ite_t, ↓bi_ite_f, ↓jc_lt_t, ↓jc_lt_f, ↓jc_gt_t, ↓jc_gt_f, ↓jc_le_t, ↓jc_le_f, ↓jc_ge_t, ↓jc_ge_f, ↓jc_eq_t, ↓jc_eq_f, ↓if_pos, ↓if_neg]
  rw [e0, e1, e2]
  simp (disch := first | assumption | omega | exact bi_lo | exact bi_hi | exact bi_01 | exact jcmp_lo | exact jcmp_hi | exact (jor_r _ _).1 | exact (jor_r _ _).2 | exact (jand_r _ _).1 | exact (jand_r _ _).2) only [x9_28, kb_some, kb_none, clr_vi, clr_ref, clr_null, clr_none, va_rf_some, va_rf_none, ↓bi_ite_t, ↓bi_ite_f, ↓jc_lt_t, ↓jc_lt_f, ↓jc_gt_t, ↓jc_gt_f, ↓jc_le_t, ↓jc_le_f, ↓jc_ge_t, ↓jc_ge_f, ↓jc_eq_t, ↓jc_eq_f, ↓if_pos, ↓if_neg]
theorem ci_14 (h : FRS 43 J K R) : ∃ R', EE (d) 0 0 [some (.ref 42), some (vi 120)] [] (TS L 43) J K R = ok none (TS L 44) J K R' ∧ IC 42 43 44 J K R R' := by
  have c0 : CS 42 43 43 0 J K R R := CS_0 h
  have jf0 := (fr_rw0 c0.1).1
  have kf0 := (fr_rw0 c0.1).2.1
  have rf0 := (fr_rw0 c0.1).2.2
  have c1 := CS_arr (f := 0) c0 (by omega) (by omega) R0_43
  have e0 : EE (d) 0 4 [some (.ref 42), some (vi 120)] [] (TS L 43) J K R = EE (d) 0 15 [some (.ref 42), some (vi 120)] [] (TS L 44) J K (mm_up R 42 0 (some 43)) := by
    have s42 : (TS L 44)[42]? = some (0, 2) := rfl
    simp (disch := first | assumption | omega | exact bi_lo | exact bi_hi | exact bi_01 | exact jcmp_lo | exact jcmp_hi | exact (jor_r _ _).1 | exact (jor_r _ _).2 | exact (jand_r _ _).1 | exact (jand_r _ _).2) only [x0_4, x0_5, x0_6, x0_7, x0_10, x0_12, kb_some, kb_none, clr_vi, clr_ref, clr_null, clr_none, va_rf_some, va_rf_none, ↓bi_ite_t, ↓bi_ite_f, ↓jc_lt_t, ↓jc_lt_f, ↓jc_gt_t, ↓jc_gt_f, ↓jc_le_t, ↓jc_le_f, ↓jc_ge_t, ↓jc_ge_f, ↓jc_eq_t, ↓jc_eq_f, ↓if_pos, ↓if_neg, Int.reduceToNat, tl_43, tk_43, jf0, kf0, rf0]
  -- 1
  obtain ⟨R1, hR1⟩ : ∃ X, X = mm_up R 42 0 (some 43) := ⟨_, rfl⟩
  rw [← hR1] at e0 c1
  have hp : PR 42 R1 := by
    intro j q h
    match j, h with
    | 0, h => exact ((congrFun (congrFun hR1 42) _).trans (up_s)).trans h
    | 1, h => exact nomatch (show (none : Option Nat) = some q from h)
    | j + 2, h => exact nomatch (show (none : Option Nat) = some q from h)
  refine ⟨R1, ?_, CS_IC c1 hp⟩
  simp (disch := first | assumption | omega | exact bi_lo | exact bi_hi | exact bi_01 | exact jcmp_lo | exact jcmp_hi | exact (jor_r _ _).1 | exact (jor_r _ _).2 | exact (jand_r _ _).1 | exact (jand_r _ _).2) only [x0_0, x0_1, kb_some, kb_none, clr_vi, clr_ref, clr_null, clr_none, va_rf_some, va_rf_none, ↓bi_ite_t, ↓bi_ite_f, ↓jc_lt_t, ↓jc_lt_f, ↓jc_gt_t, ↓jc_gt_f, ↓jc_le_t, ↓jc_le_f, ↓jc_ge_t, ↓jc_ge_f, ↓jc_eq_t, ↓jc_eq_f, ↓if_pos, ↓if_neg]
  rw [e0]
  simp (disch := first | assumption | omega | exact bi_lo | exact bi_hi | exact bi_01 | exact jcmp_lo | exact jcmp_hi | exact (jor_r _ _).1 | exact (jor_r _ _).2 | exact (jand_r _ _).1 | exact (jand_r _ _).2) only [x0_15, kb_some, kb_none, clr_vi, clr_ref, clr_null, clr_none, va_rf_some, va_rf_none, ↓bi_ite_t, ↓bi_ite_f, ↓jc_lt_t, ↓jc_lt_f, ↓jc_gt_t, ↓jc_gt_f, ↓jc_le_t, ↓jc_le_f, ↓jc_ge_t, ↓jc_ge_f, ↓jc_eq_t, ↓jc_eq_f, ↓if_pos, ↓if_neg]
theorem ci_15 (h : FRS 37 J K R) : ∃ R', EE (d + 1) 82 0 [some (.ref 36)] [] (TS L 37) J K R = ok none (TS L 44) J K R' ∧ IC 36 37 44 J K R R' := by
  have c0 : CS 36 37 37 0 J K R R := CS_0 h
  have jf0 := (fr_rw0 c0.1).1
  have kf0 := (fr_rw0 c0.1).2.1
  have rf0 := (fr_rw0 c0.1).2.2
  have c1 := CS_arr (f := 0) c0 (by omega) (by omega) R0_37
  have e0 : EE (d + 1) 82 4 [some (.ref 36)] [] (TS L 37) J K R = EE (d + 1) 82 12 [some (.ref 36)] [] (TS L 38) J K (mm_up R 36 0 (some 37)) := by
    have s36 : (TS L 38)[36]? = some (9, 7) := rfl
    simp (disch := first | assumption | omega | exact bi_lo | exact bi_hi | exact bi_01 | exact jcmp_lo | exact jcmp_hi | exact (jor_r _ _).1 | exact (jor_r _ _).2 | exact (jand_r _ _).1 | exact (jand_r _ _).2) only [x82_4, x82_5, x82_7, x82_9, kb_some, kb_none, clr_vi, clr_ref, clr_null, clr_none, va_rf_some, va_rf_none, ↓bi_ite_t, ↓bi_ite_f, ↓jc_lt_t, ↓jc_lt_f, ↓jc_gt_t, ↓jc_gt_f, ↓jc_le_t, ↓jc_le_f, ↓jc_ge_t, ↓jc_ge_f, ↓jc_eq_t, ↓jc_eq_f, ↓if_pos, ↓if_neg, Int.reduceToNat, tl_37, tk_37, jf0, kf0, rf0]
  -- 1
  obtain ⟨R1, hR1⟩ : ∃ X, X = mm_up R 36 0 (some 37) := ⟨_, rfl⟩
  rw [← hR1] at e0 c1
  have jf1 := (fr_rw0 c1.1).1
  have kf1 := (fr_rw0 c1.1).2.1
  have rf1 := (fr_rw0 c1.1).2.2
  have c2 := CS_arr (f := 1) c1 (by omega) (by omega) R0_38
  have e1 : EE (d + 1) 82 12 [some (.ref 36)] [] (TS L 38) J K R1 = EE (d + 1) 82 20 [some (.ref 36)] [] (TS L 39) J K (mm_up R1 36 1 (some 38)) := by
    have s36 : (TS L 39)[36]? = some (9, 7) := rfl
    simp (disch := first | assumption | omega | exact bi_lo | exact bi_hi | exact bi_01 | exact jcmp_lo | exact jcmp_hi | exact (jor_r _ _).1 | exact (jor_r _ _).2 | exact (jand_r _ _).1 | exact (jand_r _ _).2) only [x82_12, x82_13, x82_15, x82_17, kb_some, kb_none, clr_vi, clr_ref, clr_null, clr_none, va_rf_some, va_rf_none, ↓bi_ite_t, ↓bi_ite_f, ↓jc_lt_t, ↓jc_lt_f, ↓jc_gt_t, ↓jc_gt_f, ↓jc_le_t, ↓jc_le_f, ↓jc_ge_t, ↓jc_ge_f, ↓jc_eq_t, ↓jc_eq_f, ↓if_pos, ↓if_neg, Int.reduceToNat, tl_38, tk_38, jf1, kf1, rf1]
  -- 2
  obtain ⟨R2, hR2⟩ : ∃ X, X = mm_up R1 36 1 (some 38) := ⟨_, rfl⟩
  rw [← hR2] at e1 c2
  have jf2 := (fr_rw0 c2.1).1
  have kf2 := (fr_rw0 c2.1).2.1
  have rf2 := (fr_rw0 c2.1).2.2
  have c3 := CS_arr (f := 2) c2 (by omega) (by omega) R0_39
  have e2 : EE (d + 1) 82 20 [some (.ref 36)] [] (TS L 39) J K R2 = EE (d + 1) 82 28 [some (.ref 36)] [] (TS L 40) J K (mm_up R2 36 2 (some 39)) := by
    have s36 : (TS L 40)[36]? = some (9, 7) := rfl
    simp (disch := first | assumption | omega | exact bi_lo | exact bi_hi | exact bi_01 | exact jcmp_lo | exact jcmp_hi | exact (jor_r _ _).1 | exact (jor_r _ _).2 | exact (jand_r _ _).1 | exact (jand_r _ _).2) only [x82_20, x82_21, x82_23, x82_25, kb_some, kb_none, clr_vi, clr_ref, clr_null, clr_none, va_rf_some, va_rf_none, ↓bi_ite_t, ↓bi_ite_f, ↓jc_lt_t, ↓jc_lt_f, ↓jc_gt_t, ↓jc_gt_f, ↓jc_le_t, ↓jc_le_f, ↓jc_ge_t, ↓jc_ge_f, ↓jc_eq_t, ↓jc_eq_f, ↓if_pos, ↓if_neg, Int.reduceToNat, tl_39, tk_39, jf2, kf2, rf2]
  -- 3
  obtain ⟨R3, hR3⟩ : ∃ X, X = mm_up R2 36 2 (some 39) := ⟨_, rfl⟩
  rw [← hR3] at e2 c3
  have jf3 := (fr_rw0 c3.1).1
  have kf3 := (fr_rw0 c3.1).2.1
  have rf3 := (fr_rw0 c3.1).2.2
  have c4 := CS_arr (f := 3) c3 (by omega) (by omega) R0_40
  have e3 : EE (d + 1) 82 28 [some (.ref 36)] [] (TS L 40) J K R3 = EE (d + 1) 82 36 [some (.ref 36)] [] (TS L 41) J K (mm_up R3 36 3 (some 40)) := by
    have s36 : (TS L 41)[36]? = some (9, 7) := rfl
    simp (disch := first | assumption | omega | exact bi_lo | exact bi_hi | exact bi_01 | exact jcmp_lo | exact jcmp_hi | exact (jor_r _ _).1 | exact (jor_r _ _).2 | exact (jand_r _ _).1 | exact (jand_r _ _).2) only [x82_28, x82_29, x82_31, x82_33, kb_some, kb_none, clr_vi, clr_ref, clr_null, clr_none, va_rf_some, va_rf_none, ↓bi_ite_t, ↓bi_ite_f, ↓jc_lt_t, ↓jc_lt_f, ↓jc_gt_t, ↓jc_gt_f, ↓jc_le_t, ↓jc_le_f, ↓jc_ge_t, ↓jc_ge_f, ↓jc_eq_t, ↓jc_eq_f, ↓if_pos, ↓if_neg, Int.reduceToNat, tl_40, tk_40, jf3, kf3, rf3]
  -- 4
  obtain ⟨R4, hR4⟩ : ∃ X, X = mm_up R3 36 3 (some 40) := ⟨_, rfl⟩
  rw [← hR4] at e3 c4
  have jf4 := (fr_rw0 c4.1).1
  have kf4 := (fr_rw0 c4.1).2.1
  have rf4 := (fr_rw0 c4.1).2.2
  have c5 := CS_arr (f := 4) c4 (by omega) (by omega) R0_41
  have e4 : EE (d + 1) 82 36 [some (.ref 36)] [] (TS L 41) J K R4 = EE (d + 1) 82 44 [some (.ref 36)] [] (TS L 42) J K (mm_up R4 36 4 (some 41)) := by
    have s36 : (TS L 42)[36]? = some (9, 7) := rfl
    simp (disch := first | assumption | omega | exact bi_lo | exact bi_hi | exact bi_01 | exact jcmp_lo | exact jcmp_hi | exact (jor_r _ _).1 | exact (jor_r _ _).2 | exact (jand_r _ _).1 | exact (jand_r _ _).2) only [x82_36, x82_37, x82_39, x82_41, kb_some, kb_none, clr_vi, clr_ref, clr_null, clr_none, va_rf_some, va_rf_none, ↓bi_ite_t, ↓bi_ite_f, ↓jc_lt_t, ↓jc_lt_f, ↓jc_gt_t, ↓jc_gt_f, ↓jc_le_t, ↓jc_le_f, ↓jc_ge_t, ↓jc_ge_f, ↓jc_eq_t, ↓jc_eq_f, ↓if_pos, ↓if_neg, Int.reduceToNat, tl_41, tk_41, jf4, kf4, rf4]
  -- 5
  obtain ⟨R5, hR5⟩ : ∃ X, X = mm_up R4 36 4 (some 41) := ⟨_, rfl⟩
  rw [← hR5] at e4 c5
  have jf5 := (fr_rw0 c5.1).1
  have kf5 := (fr_rw0 c5.1).2.1
  have rf5 := (fr_rw0 c5.1).2.2
  obtain ⟨Q5, q5, w5⟩ := ci_14 (L := L) (d := d) (J := J) (K := K) (R := R5) (FRS_1 c5.1)
  have c6 := CS_obj (f := 5) c5 w5 (by omega) (by omega) (by omega)
  have e5 : EE (d + 1) 82 44 [some (.ref 36)] [] (TS L 42) J K R5 = EE (d + 1) 82 57 [some (.ref 36)] [] (TS L 44) J K (mm_up Q5 36 5 (some 42)) := by
    have s36 : (TS L 44)[36]? = some (9, 7) := rfl
    have s42 : (TS L 43)[42]? = some (0, 2) := rfl
    simp (disch := first | assumption | omega | exact bi_lo | exact bi_hi | exact bi_01 | exact jcmp_lo | exact jcmp_hi | exact (jor_r _ _).1 | exact (jor_r _ _).2 | exact (jand_r _ _).1 | exact (jand_r _ _).2) only [x82_44, x82_45, x82_48, x82_49, x82_51, x82_54, kb_some, kb_none, clr_vi, clr_ref, clr_null, clr_none, va_rf_some, va_rf_none, ↓bi_ite_t, ↓bi_ite_f, ↓jc_lt_t, ↓jc_lt_f, ↓jc_gt_t, ↓jc_gt_f, ↓jc_le_t, ↓jc_le_f, ↓jc_ge_t, ↓jc_ge_f, ↓jc_eq_t, ↓jc_eq_f, ↓if_pos, ↓if_neg, Int.reduceToNat, tl_42, tk_42, jf5, kf5, rf5, q5]
  -- 6
  obtain ⟨R6, hR6⟩ : ∃ X, X = mm_up Q5 36 5 (some 42) := ⟨_, rfl⟩
  rw [← hR6] at e5 c6
  have hp : PR 36 R6 := by
    intro j q h
    match j, h with
    | 0, h => exact ((congrFun (congrFun hR6 36) _).trans ((up_j (by decide)).trans ((congrFun (w5.1 36 (by decide) (by decide)) _).trans ((congrFun (congrFun hR5 36) _).trans ((up_j (by decide)).trans ((congrFun (congrFun hR4 36) _).trans ((up_j (by decide)).trans ((congrFun (congrFun hR3 36) _).trans ((up_j (by decide)).trans ((congrFun (congrFun hR2 36) _).trans ((up_j (by decide)).trans ((congrFun (congrFun hR1 36) _).trans (up_s))))))))))))).trans h
    | 1, h => exact ((congrFun (congrFun hR6 36) _).trans ((up_j (by decide)).trans ((congrFun (w5.1 36 (by decide) (by decide)) _).trans ((congrFun (congrFun hR5 36) _).trans ((up_j (by decide)).trans ((congrFun (congrFun hR4 36) _).trans ((up_j (by decide)).trans ((congrFun (congrFun hR3 36) _).trans ((up_j (by decide)).trans ((congrFun (congrFun hR2 36) _).trans (up_s))))))))))).trans h
    | 2, h => exact ((congrFun (congrFun hR6 36) _).trans ((up_j (by decide)).trans ((congrFun (w5.1 36 (by decide) (by decide)) _).trans ((congrFun (congrFun hR5 36) _).trans ((up_j (by decide)).trans ((congrFun (congrFun hR4 36) _).trans ((up_j (by decide)).trans ((congrFun (congrFun hR3 36) _).trans (up_s))))))))).trans h
    | 3, h => exact ((congrFun (congrFun hR6 36) _).trans ((up_j (by decide)).trans ((congrFun (w5.1 36 (by decide) (by decide)) _).trans ((congrFun (congrFun hR5 36) _).trans ((up_j (by decide)).trans ((congrFun (congrFun hR4 36) _).trans (up_s))))))).trans h
    | 4, h => exact ((congrFun (congrFun hR6 36) _).trans ((up_j (by decide)).trans ((congrFun (w5.1 36 (by decide) (by decide)) _).trans ((congrFun (congrFun hR5 36) _).trans (up_s))))).trans h
    | 5, h => exact ((congrFun (congrFun hR6 36) _).trans (up_s)).trans h
    | 6, h => exact nomatch (show (none : Option Nat) = some q from h)
    | j + 7, h => exact nomatch (show (none : Option Nat) = some q from h)
  refine ⟨R6, ?_, CS_IC c6 hp⟩
  simp (disch := first | assumption | omega | exact bi_lo | exact bi_hi | exact bi_01 | exact jcmp_lo | exact jcmp_hi | exact (jor_r _ _).1 | exact (jor_r _ _).2 | exact (jand_r _ _).1 | exact (jand_r _ _).2) only [x82_0, x82_1, kb_some, kb_none, clr_vi, clr_ref, clr_null, clr_none, va_rf_some, va_rf_none, ↓bi_ite_t, ↓bi_ite_f, ↓jc_lt_t, ↓jc_lt_f, ↓jc_gt_t, ↓jc_gt_f, ↓jc_le_t, ↓jc_le_f, ↓jc_ge_t, ↓jc_ge_f, ↓jc_eq_t, ↓jc_eq_f, ↓if_pos, ↓if_neg]
  rw [e0, e1, e2, e3, e4, e5]
  simp (disch := first | assumption | omega | exact bi_lo | exact bi_hi | exact bi_01 | exact jcmp_lo | exact jcmp_hi | exact (jor_r _ _).1 | exact (jor_r _ _).2 | exact (jand_r _ _).1 | exact (jand_r _ _).2) only [x82_57, kb_some, kb_none, clr_vi, clr_ref, clr_null, clr_none, va_rf_some, va_rf_none, ↓bi_ite_t, ↓bi_ite_f, ↓jc_lt_t, ↓jc_lt_f, ↓jc_gt_t, ↓jc_gt_f, ↓jc_le_t, ↓jc_le_f, ↓jc_ge_t, ↓jc_ge_f, ↓jc_eq_t, ↓jc_eq_f, ↓if_pos, ↓if_neg]
theorem ci_16 (h : FRS 45 J K R) : ∃ R', EE (d) 0 0 [some (.ref 44), some (vi 0)] [] (TS L 45) J K R = ok none (TS L 46) J K R' ∧ IC 44 45 46 J K R R' := by
  have c0 : CS 44 45 45 0 J K R R := CS_0 h
  have jf0 := (fr_rw0 c0.1).1
  have kf0 := (fr_rw0 c0.1).2.1
  have rf0 := (fr_rw0 c0.1).2.2
  have c1 := CS_arr (f := 0) c0 (by omega) (by omega) R0_45
  have e0 : EE (d) 0 4 [some (.ref 44), some (vi 0)] [] (TS L 45) J K R = EE (d) 0 15 [some (.ref 44), some (vi 0)] [] (TS L 46) J K (mm_up R 44 0 (some 45)) := by
    have s44 : (TS L 46)[44]? = some (0, 2) := rfl
    simp (disch := first | assumption | omega | exact bi_lo | exact bi_hi | exact bi_01 | exact jcmp_lo | exact jcmp_hi | exact (jor_r _ _).1 | exact (jor_r _ _).2 | exact (jand_r _ _).1 | exact (jand_r _ _).2) only [x0_4, x0_5, x0_6, x0_7, x0_10, x0_12, kb_some, kb_none, clr_vi, clr_ref, clr_null, clr_none, va_rf_some, va_rf_none, ↓bi_ite_t, ↓bi_ite_f, ↓jc_lt_t, ↓jc_lt_f, ↓jc_gt_t, ↓jc_gt_f, ↓jc_le_t, ↓jc_le_f, ↓jc_ge_t, ↓jc_ge_f, ↓jc_eq_t, ↓jc_eq_f, ↓if_pos, ↓if_neg, Int.reduceToNat, tl_45, tk_45, jf0, kf0, rf0]
  -- 1
  obtain ⟨R1, hR1⟩ : ∃ X, X = mm_up R 44 0 (some 45) := ⟨_, rfl⟩
  rw [← hR1] at e0 c1
  have hp : PR 44 R1 := by
    intro j q h
    match j, h with
    | 0, h => exact ((congrFun (congrFun hR1 44) _).trans (up_s)).trans h
    | 1, h => exact nomatch (show (none : Option Nat) = some q from h)
    | j + 2, h => exact nomatch (show (none : Option Nat) = some q from h)
  refine ⟨R1, ?_, CS_IC c1 hp⟩
  simp (disch := first | assumption | omega | exact bi_lo | exact bi_hi | exact bi_01 | exact jcmp_lo | exact jcmp_hi | exact (jor_r _ _).1 | exact (jor_r _ _).2 | exact (jand_r _ _).1 | exact (jand_r _ _).2) only [x0_0, x0_1, kb_some, kb_none, clr_vi, clr_ref, clr_null, clr_none, va_rf_some, va_rf_none, ↓bi_ite_t, ↓bi_ite_f, ↓jc_lt_t, ↓jc_lt_f, ↓jc_gt_t, ↓jc_gt_f, ↓jc_le_t, ↓jc_le_f, ↓jc_ge_t, ↓jc_ge_f, ↓jc_eq_t, ↓jc_eq_f, ↓if_pos, ↓if_neg]
  rw [e0]
  simp (disch := first | assumption | omega | exact bi_lo | exact bi_hi | exact bi_01 | exact jcmp_lo | exact jcmp_hi | exact (jor_r _ _).1 | exact (jor_r _ _).2 | exact (jand_r _ _).1 | exact (jand_r _ _).2) only [x0_15, kb_some, kb_none, clr_vi, clr_ref, clr_null, clr_none, va_rf_some, va_rf_none, ↓bi_ite_t, ↓bi_ite_f, ↓jc_lt_t, ↓jc_lt_f, ↓jc_gt_t, ↓jc_gt_f, ↓jc_le_t, ↓jc_le_f, ↓jc_ge_t, ↓jc_ge_f, ↓jc_eq_t, ↓jc_eq_f, ↓if_pos, ↓if_neg]
theorem ci_17 (h : FRS 32 J K R) : ∃ R', EE (d + 2) 14 0 [some (.ref 31)] [] (TS L 32) J K R = ok none (TS L 46) J K R' ∧ IC 31 32 46 J K R R' := by
  have c0 : CS 31 32 32 0 J K R R := CS_0 h
  have jf0 := (fr_rw0 c0.1).1
  have kf0 := (fr_rw0 c0.1).2.1
  have rf0 := (fr_rw0 c0.1).2.2
  obtain ⟨Q0, q0, w0⟩ := ci_13 (L := L) (d := d + 1) (J := J) (K := K) (R := R) (FRS_1 c0.1)
  have c1 := CS_obj (f := 0) c0 w0 (by omega) (by omega) (by omega)
  have e0 : EE (d + 2) 14 4 [some (.ref 31)] [] (TS L 32) J K R = EE (d + 2) 14 15 [some (.ref 31)] [] (TS L 36) J K (mm_up Q0 31 0 (some 32)) := by
    have s31 : (TS L 36)[31]? = some (2, 5) := rfl
    have s32 : (TS L 33)[32]? = some (1, 4) := rfl
    simp (disch := first | assumption | omega | exact bi_lo | exact bi_hi | exact bi_01 | exact jcmp_lo | exact jcmp_hi | exact (jor_r _ _).1 | exact (jor_r _ _).2 | exact (jand_r _ _).1 | exact (jand_r _ _).2) only [x14_4, x14_5, x14_8, x14_9, x14_12, kb_some, kb_none, clr_vi, clr_ref, clr_null, clr_none, va_rf_some, va_rf_none, ↓bi_ite_t, ↓bi_ite_f, ↓jc_lt_t, ↓jc_lt_f, ↓jc_gt_t, ↓jc_gt_f, ↓jc_le_t, ↓jc_le_f, ↓jc_ge_t, ↓jc_ge_f, ↓jc_eq_t, ↓jc_eq_f, ↓if_pos, ↓if_neg, Int.reduceToNat, tl_32, tk_32, jf0, kf0, rf0, q0]
  -- 1
  obtain ⟨R1, hR1⟩ : ∃ X, X = mm_up Q0 31 0 (some 32) := ⟨_, rfl⟩
  rw [← hR1] at e0 c1
  have jf1 := (fr_rw0 c1.1).1
  have kf1 := (fr_rw0 c1.1).2.1
  have rf1 := (fr_rw0 c1.1).2.2
  obtain ⟨Q1, q1, w1⟩ := ci_15 (L := L) (d := d) (J := J) (K := K) (R := R1) (FRS_1 c1.1)
  have c2 := CS_obj (f := 1) c1 w1 (by omega) (by omega) (by omega)
  have e1 : EE (d + 2) 14 15 [some (.ref 31)] [] (TS L 36) J K R1 = EE (d + 2) 14 26 [some (.ref 31)] [] (TS L 44) J K (mm_up Q1 31 1 (some 36)) := by
    have s31 : (TS L 44)[31]? = some (2, 5) := rfl
    have s36 : (TS L 37)[36]? = some (9, 7) := rfl
    simp (disch := first | assumption | omega | exact bi_lo | exact bi_hi | exact bi_01 | exact jcmp_lo | exact jcmp_hi | exact (jor_r _ _).1 | exact (jor_r _ _).2 | exact (jand_r _ _).1 | exact (jand_r _ _).2) only [x14_15, x14_16, x14_19, x14_20, x14_23, kb_some, kb_none, clr_vi, clr_ref, clr_null, clr_none, va_rf_some, va_rf_none, ↓bi_ite_t, ↓bi_ite_f, ↓jc_lt_t, ↓jc_lt_f, ↓jc_gt_t, ↓jc_gt_f, ↓jc_le_t, ↓jc_le_f, ↓jc_ge_t, ↓jc_ge_f, ↓jc_eq_t, ↓jc_eq_f, ↓if_pos, ↓if_neg, Int.reduceToNat, tl_36, tk_36, jf1, kf1, rf1, q1]
  -- 2
  obtain ⟨R2, hR2⟩ : ∃ X, X = mm_up Q1 31 1 (some 36) := ⟨_, rfl⟩
  rw [← hR2] at e1 c2
  have jf2 := (fr_rw0 c2.1).1
  have kf2 := (fr_rw0 c2.1).2.1
  have rf2 := (fr_rw0 c2.1).2.2
  obtain ⟨Q2, q2, w2⟩ := ci_16 (L := L) (d := d + 1) (J := J) (K := K) (R := R2) (FRS_1 c2.1)
  have c3 := CS_obj (f := 2) c2 w2 (by omega) (by omega) (by omega)
  have e2 : EE (d + 2) 14 26 [some (.ref 31)] [] (TS L 44) J K R2 = EE (d + 2) 14 38 [some (.ref 31)] [] (TS L 46) J K (mm_up Q2 31 2 (some 44)) := by
    have s31 : (TS L 46)[31]? = some (2, 5) := rfl
    have s44 : (TS L 45)[44]? = some (0, 2) := rfl
    simp (disch := first | assumption | omega | exact bi_lo | exact bi_hi | exact bi_01 | exact jcmp_lo | exact jcmp_hi | exact (jor_r _ _).1 | exact (jor_r _ _).2 | exact (jand_r _ _).1 | exact (jand_r _ _).2) only [x14_26, x14_27, x14_30, x14_31, x14_32, x14_35, kb_some, kb_none, clr_vi, clr_ref, clr_null, clr_none, va_rf_some, va_rf_none, ↓bi_ite_t, ↓bi_ite_f, ↓jc_lt_t, ↓jc_lt_f, ↓jc_gt_t, ↓jc_gt_f, ↓jc_le_t, ↓jc_le_f, ↓jc_ge_t, ↓jc_ge_f, ↓jc_eq_t, ↓jc_eq_f, ↓if_pos, ↓if_neg, Int.reduceToNat, tl_44, tk_44, jf2, kf2, rf2, q2]
  -- 3
  obtain ⟨R3, hR3⟩ : ∃ X, X = mm_up Q2 31 2 (some 44) := ⟨_, rfl⟩
  rw [← hR3] at e2 c3
  have hp : PR 31 R3 := by
    intro j q h
    match j, h with
    | 0, h => exact ((congrFun (congrFun hR3 31) _).trans ((up_j (by decide)).trans ((congrFun (w2.1 31 (by decide) (by decide)) _).trans ((congrFun (congrFun hR2 31) _).trans ((up_j (by decide)).trans ((congrFun (w1.1 31 (by decide) (by decide)) _).trans ((congrFun (congrFun hR1 31) _).trans (up_s)))))))).trans h
    | 1, h => exact ((congrFun (congrFun hR3 31) _).trans ((up_j (by decide)).trans ((congrFun (w2.1 31 (by decide) (by decide)) _).trans ((congrFun (congrFun hR2 31) _).trans (up_s))))).trans h
    | 2, h => exact nomatch (show (none : Option Nat) = some q from h)
    | 3, h => exact nomatch (show (none : Option Nat) = some q from h)
    | 4, h => exact nomatch (show (none : Option Nat) = some q from h)
    | j + 5, h => exact nomatch (show (none : Option Nat) = some q from h)
  refine ⟨R3, ?_, CS_IC c3 hp⟩
  simp (disch := first | assumption | omega | exact bi_lo | exact bi_hi | exact bi_01 | exact jcmp_lo | exact jcmp_hi | exact (jor_r _ _).1 | exact (jor_r _ _).2 | exact (jand_r _ _).1 | exact (jand_r _ _).2) only [x14_0, x14_1, kb_some, kb_none, clr_vi, clr_ref, clr_null, clr_none, va_rf_some, va_rf_none, ↓bi_ite_t, ↓bi_ite_f, ↓jc_lt_t, ↓jc_lt_f, ↓jc_gt_t, ↓jc_gt_f, ↓jc_le_t, ↓jc_le_f, ↓jc_ge_t, ↓jc_ge_f, ↓jc_eq_t, ↓jc_eq_f, ↓if_pos, ↓if_neg]
  rw [e0, e1, e2]
  simp (disch := first | assumption | omega | exact bi_lo | exact bi_hi | exact bi_01 | exact jcmp_lo | exact jcmp_hi | exact (jor_r _ _).1 | exact (jor_r _ _).2 | exact (jand_r _ _).1 | exact (jand_r _ _).2) only [x14_38, kb_some, kb_none, clr_vi, clr_ref, clr_null, clr_none, va_rf_some, va_rf_none, ↓bi_ite_t, ↓bi_ite_f, ↓jc_lt_t, ↓jc_lt_f, ↓jc_gt_t, ↓jc_gt_f, ↓jc_le_t, ↓jc_le_f, ↓jc_ge_t, ↓jc_ge_f, ↓jc_eq_t, ↓jc_eq_f, ↓if_pos, ↓if_neg]
theorem ci_18 (h : FRS 54 J K R) : ∃ R', EE (d) 0 0 [some (.ref 53), some (vi 120)] [] (TS L 54) J K R = ok none (TS L 55) J K R' ∧ IC 53 54 55 J K R R' := by
  have c0 : CS 53 54 54 0 J K R R := CS_0 h
  have jf0 := (fr_rw0 c0.1).1
  have kf0 := (fr_rw0 c0.1).2.1
  have rf0 := (fr_rw0 c0.1).2.2
  have c1 := CS_arr (f := 0) c0 (by omega) (by omega) R0_54
  have e0 : EE (d) 0 4 [some (.ref 53), some (vi 120)] [] (TS L 54) J K R = EE (d) 0 15 [some (.ref 53), some (vi 120)] [] (TS L 55) J K (mm_up R 53 0 (some 54)) := by
    have s53 : (TS L 55)[53]? = some (0, 2) := rfl
    simp (disch := first | assumption | omega | exact bi_lo | exact bi_hi | exact bi_01 | exact jcmp_lo | exact jcmp_hi | exact (jor_r _ _).1 | exact (jor_r _ _).2 | exact (jand_r _ _).1 | exact (jand_r _ _).2) only [x0_4, x0_5, x0_6, x0_7, x0_10, x0_12, kb_some, kb_none, clr_vi, clr_ref, clr_null, clr_none, va_rf_some, va_rf_none, ↓bi_ite_t, ↓bi_ite_f, ↓jc_lt_t, ↓jc_lt_f, ↓jc_gt_t, ↓jc_gt_f, ↓jc_le_t, ↓jc_le_f, ↓jc_ge_t, ↓jc_ge_f, ↓jc_eq_t, ↓jc_eq_f, ↓if_pos, ↓if_neg, Int.reduceToNat, tl_54, tk_54, jf0, kf0, rf0]
  -- 1
  obtain ⟨R1, hR1⟩ : ∃ X, X = mm_up R 53 0 (some 54) := ⟨_, rfl⟩
  rw [← hR1] at e0 c1
  have hp : PR 53 R1 := by
    intro j q h
    match j, h with
    | 0, h => exact ((congrFun (congrFun hR1 53) _).trans (up_s)).trans h
    | 1, h => exact nomatch (show (none : Option Nat) = some q from h)
    | j + 2, h => exact nomatch (show (none : Option Nat) = some q from h)
  refine ⟨R1, ?_, CS_IC c1 hp⟩
  simp (disch := first | assumption | omega | exact bi_lo | exact bi_hi | exact bi_01 | exact jcmp_lo | exact jcmp_hi | exact (jor_r _ _).1 | exact (jor_r _ _).2 | exact (jand_r _ _).1 | exact (jand_r _ _).2) only [x0_0, x0_1, kb_some, kb_none, clr_vi, clr_ref, clr_null, clr_none, va_rf_some, va_rf_none, ↓bi_ite_t, ↓bi_ite_f, ↓jc_lt_t, ↓jc_lt_f, ↓jc_gt_t, ↓jc_gt_f, ↓jc_le_t, ↓jc_le_f, ↓jc_ge_t, ↓jc_ge_f, ↓jc_eq_t, ↓jc_eq_f, ↓if_pos, ↓if_neg]
  rw [e0]
  simp (disch := first | assumption | omega | exact bi_lo | exact bi_hi | exact bi_01 | exact jcmp_lo | exact jcmp_hi | exact (jor_r _ _).1 | exact (jor_r _ _).2 | exact (jand_r _ _).1 | exact (jand_r _ _).2) only [x0_15, kb_some, kb_none, clr_vi, clr_ref, clr_null, clr_none, va_rf_some, va_rf_none, ↓bi_ite_t, ↓bi_ite_f, ↓jc_lt_t, ↓jc_lt_f, ↓jc_gt_t, ↓jc_gt_f, ↓jc_le_t, ↓jc_le_f, ↓jc_ge_t, ↓jc_ge_f, ↓jc_eq_t, ↓jc_eq_f, ↓if_pos, ↓if_neg]
theorem ci_19 (h : FRS 48 J K R) : ∃ R', EE (d + 1) 82 0 [some (.ref 47)] [] (TS L 48) J K R = ok none (TS L 55) J K R' ∧ IC 47 48 55 J K R R' := by
  have c0 : CS 47 48 48 0 J K R R := CS_0 h
  have jf0 := (fr_rw0 c0.1).1
  have kf0 := (fr_rw0 c0.1).2.1
  have rf0 := (fr_rw0 c0.1).2.2
  have c1 := CS_arr (f := 0) c0 (by omega) (by omega) R0_48
  have e0 : EE (d + 1) 82 4 [some (.ref 47)] [] (TS L 48) J K R = EE (d + 1) 82 12 [some (.ref 47)] [] (TS L 49) J K (mm_up R 47 0 (some 48)) := by
    have s47 : (TS L 49)[47]? = some (9, 7) := rfl
    simp (disch := first | assumption | omega | exact bi_lo | exact bi_hi | exact bi_01 | exact jcmp_lo | exact jcmp_hi | exact (jor_r _ _).1 | exact (jor_r _ _).2 | exact (jand_r _ _).1 | exact (jand_r _ _).2) only [x82_4, x82_5, x82_7, x82_9, kb_some, kb_none, clr_vi, clr_ref, clr_null, clr_none, va_rf_some, va_rf_none, ↓bi_ite_t, ↓bi_ite_f, ↓jc_lt_t, ↓jc_lt_f, ↓jc_gt_t, ↓jc_gt_f, ↓jc_le_t, ↓jc_le_f, ↓jc_ge_t, ↓jc_ge_f, ↓jc_eq_t, ↓jc_eq_f, ↓if_pos, ↓if_neg, Int.reduceToNat, tl_48, tk_48, jf0, kf0, rf0]
  -- 1
  obtain ⟨R1, hR1⟩ : ∃ X, X = mm_up R 47 0 (some 48) := ⟨_, rfl⟩
  rw [← hR1] at e0 c1
  have jf1 := (fr_rw0 c1.1).1
  have kf1 := (fr_rw0 c1.1).2.1
  have rf1 := (fr_rw0 c1.1).2.2
  have c2 := CS_arr (f := 1) c1 (by omega) (by omega) R0_49
  have e1 : EE (d + 1) 82 12 [some (.ref 47)] [] (TS L 49) J K R1 = EE (d + 1) 82 20 [some (.ref 47)] [] (TS L 50) J K (mm_up R1 47 1 (some 49)) := by
    have s47 : (TS L 50)[47]? = some (9, 7) := rfl
    simp (disch := first | assumption | omega | exact bi_lo | exact bi_hi | exact bi_01 | exact jcmp_lo | exact jcmp_hi | exact (jor_r _ _).1 | exact (jor_r _ _).2 | exact (jand_r _ _).1 | exact (jand_r _ _).2) only [x82_12, x82_13, x82_15, x82_17, kb_some, kb_none, clr_vi, clr_ref, clr_null, clr_none, va_rf_some, va_rf_none, ↓bi_ite_t, ↓bi_ite_f, ↓jc_lt_t, ↓jc_lt_f, ↓jc_gt_t, ↓jc_gt_f, ↓jc_le_t, ↓jc_le_f, ↓jc_ge_t, ↓jc_ge_f, ↓jc_eq_t, ↓jc_eq_f, ↓if_pos, ↓if_neg, Int.reduceToNat, tl_49, tk_49, jf1, kf1, rf1]
  -- 2
  obtain ⟨R2, hR2⟩ : ∃ X, X = mm_up R1 47 1 (some 49) := ⟨_, rfl⟩
  rw [← hR2] at e1 c2
  have jf2 := (fr_rw0 c2.1).1
  have kf2 := (fr_rw0 c2.1).2.1
  have rf2 := (fr_rw0 c2.1).2.2
  have c3 := CS_arr (f := 2) c2 (by omega) (by omega) R0_50
  have e2 : EE (d + 1) 82 20 [some (.ref 47)] [] (TS L 50) J K R2 = EE (d + 1) 82 28 [some (.ref 47)] [] (TS L 51) J K (mm_up R2 47 2 (some 50)) := by
    have s47 : (TS L 51)[47]? = some (9, 7) := rfl
    simp (disch := first | assumption | omega | exact bi_lo | exact bi_hi | exact bi_01 | exact jcmp_lo | exact jcmp_hi | exact (jor_r _ _).1 | exact (jor_r _ _).2 | exact (jand_r _ _).1 | exact (jand_r _ _).2) only [x82_20, x82_21, x82_23, x82_25, kb_some, kb_none, clr_vi, clr_ref, clr_null, clr_none, va_rf_some, va_rf_none, ↓bi_ite_t, ↓bi_ite_f, ↓jc_lt_t, ↓jc_lt_f, ↓jc_gt_t, ↓jc_gt_f, ↓jc_le_t, ↓jc_le_f, ↓jc_ge_t, ↓jc_ge_f, ↓jc_eq_t, ↓jc_eq_f, ↓if_pos, ↓if_neg, Int.reduceToNat, tl_50, tk_50, jf2, kf2, rf2]
  -- 3
  obtain ⟨R3, hR3⟩ : ∃ X, X = mm_up R2 47 2 (some 50) := ⟨_, rfl⟩
  rw [← hR3] at e2 c3
  have jf3 := (fr_rw0 c3.1).1
  have kf3 := (fr_rw0 c3.1).2.1
  have rf3 := (fr_rw0 c3.1).2.2
  have c4 := CS_arr (f := 3) c3 (by omega) (by omega) R0_51
  have e3 : EE (d + 1) 82 28 [some (.ref 47)] [] (TS L 51) J K R3 = EE (d + 1) 82 36 [some (.ref 47)] [] (TS L 52) J K (mm_up R3 47 3 (some 51)) := by
    have s47 : (TS L 52)[47]? = some (9, 7) := rfl
    simp (disch := first | assumption | omega | exact bi_lo | exact bi_hi | exact bi_01 | exact jcmp_lo | exact jcmp_hi | exact (jor_r _ _).1 | exact (jor_r _ _).2 | exact (jand_r _ _).1 | exact (jand_r _ _).2) only [x82_28, x82_29, x82_31, x82_33, kb_some, kb_none, clr_vi, clr_ref, clr_null, clr_none, va_rf_some, va_rf_none, ↓bi_ite_t, ↓bi_ite_f, ↓jc_lt_t, ↓jc_lt_f, ↓jc_gt_t, ↓jc_gt_f, ↓jc_le_t, ↓jc_le_f, ↓jc_ge_t, ↓jc_ge_f, ↓jc_eq_t, ↓jc_eq_f, ↓if_pos, ↓if_neg, Int.reduceToNat, tl_51, tk_51, jf3, kf3, rf3]
  -- 4
  obtain ⟨R4, hR4⟩ : ∃ X, X = mm_up R3 47 3 (some 51) := ⟨_, rfl⟩
  rw [← hR4] at e3 c4
  have jf4 := (fr_rw0 c4.1).1
  have kf4 := (fr_rw0 c4.1).2.1
  have rf4 := (fr_rw0 c4.1).2.2
  have c5 := CS_arr (f := 4) c4 (by omega) (by omega) R0_52
  have e4 : EE (d + 1) 82 36 [some (.ref 47)] [] (TS L 52) J K R4 = EE (d + 1) 82 44 [some (.ref 47)] [] (TS L 53) J K (mm_up R4 47 4 (some 52)) := by
    have s47 : (TS L 53)[47]? = some (9, 7) := rfl
    simp (disch := first | assumption | omega | exact bi_lo | exact bi_hi | exact bi_01 | exact jcmp_lo | exact jcmp_hi | exact (jor_r _ _).1 | exact (jor_r _ _).2 | exact (jand_r _ _).1 | exact (jand_r _ _).2) only [x82_36, x82_37, x82_39, x82_41, kb_some, kb_none, clr_vi, clr_ref, clr_null, clr_none, va_rf_some, va_rf_none, ↓bi_ite_t, ↓bi_ite_f, ↓jc_lt_t, ↓jc_lt_f, ↓jc_gt_t, ↓jc_gt_f, ↓jc_le_t, ↓jc_le_f, ↓jc_ge_t, ↓jc_ge_f, ↓jc_eq_t, ↓jc_eq_f, ↓if_pos, ↓if_neg, Int.reduceToNat, tl_52, tk_52, jf4, kf4, rf4]
  -- 5
  obtain ⟨R5, hR5⟩ : ∃ X, X = mm_up R4 47 4 (some 52) := ⟨_, rfl⟩
  rw [← hR5] at e4 c5
  have jf5 := (fr_rw0 c5.1).1
  have kf5 := (fr_rw0 c5.1).2.1
  have rf5 := (fr_rw0 c5.1).2.2
  obtain ⟨Q5, q5, w5⟩ := ci_18 (L := L) (d := d) (J := J) (K := K) (R := R5) (FRS_1 c5.1)
  have c6 := CS_obj (f := 5) c5 w5 (by omega) (by omega) (by omega)
  have e5 : EE (d + 1) 82 44 [some (.ref 47)] [] (TS L 53) J K R5 = EE (d + 1) 82 57 [some (.ref 47)] [] (TS L 55) J K (mm_up Q5 47 5 (some 53)) := by
    have s47 : (TS L 55)[47]? = some (9, 7) := rfl
    have s53 : (TS L 54)[53]? = some (0, 2) := rfl
    simp (disch := first | assumption | omega | exact bi_lo | exact bi_hi | exact bi_01 | exact jcmp_lo | exact jcmp_hi | exact (jor_r _ _).1 | exact (jor_r _ _).2 | exact (jand_r _ _).1 | exact (jand_r _ _).2) only [x82_44, x82_45, x82_48, x82_49, x82_51, x82_54, kb_some, kb_none, clr_vi, clr_ref, clr_null, clr_none, va_rf_some, va_rf_none, ↓bi_ite_t, ↓bi_ite_f, ↓jc_lt_t, ↓jc_lt_f, ↓jc_gt_t, ↓jc_gt_f, ↓jc_le_t, ↓jc_le_f, ↓jc_ge_t, ↓jc_ge_f, ↓jc_eq_t, ↓jc_eq_f, ↓if_pos, ↓if_neg, Int.reduceToNat, tl_53, tk_53, jf5, kf5, rf5, q5]
  -- 6
  obtain ⟨R6, hR6⟩ : ∃ X, X = mm_up Q5 47 5 (some 53) := ⟨_, rfl⟩
  rw [← hR6] at e5 c6
  have hp : PR 47 R6 := by
    intro j q h
    match j, h with
    | 0, h => exact ((congrFun (congrFun hR6 47) _).trans ((up_j (by decide)).trans ((congrFun (w5.1 47 (by decide) (by decide)) _).trans ((congrFun (congrFun hR5 47) _).trans ((up_j (by decide)).trans ((congrFun (congrFun hR4 47) _).trans ((up_j (by decide)).trans ((congrFun (congrFun hR3 47) _).trans ((up_j (by decide)).trans ((congrFun (congrFun hR2 47) _).trans ((up_j (by decide)).trans ((congrFun (congrFun hR1 47) _).trans (up_s))))))))))))).trans h
    | 1, h => exact ((congrFun (congrFun hR6 47) _).trans ((up_j (by decide)).trans ((congrFun (w5.1 47 (by decide) (by decide)) _).trans ((congrFun (congrFun hR5 47) _).trans ((up_j (by decide)).trans ((congrFun (congrFun hR4 47) _).trans ((up_j (by decide)).trans ((congrFun (congrFun hR3 47) _).trans ((up_j (by decide)).trans ((congrFun (congrFun hR2 47) _).trans (up_s))))))))))).trans h
    | 2, h => exact ((congrFun (congrFun hR6 47) _).trans ((up_j (by decide)).trans ((congrFun (w5.1 47 (by decide) (by decide)) _).trans ((congrFun (congrFun hR5 47) _).trans ((up_j (by decide)).trans ((congrFun (congrFun hR4 47) _).trans ((up_j (by decide)).trans ((congrFun (congrFun hR3 47) _).trans (up_s))))))))).trans h
    | 3, h => exact ((congrFun (congrFun hR6 47) _).trans ((up_j (by decide)).trans ((congrFun (w5.1 47 (by decide) (by decide)) _).trans ((congrFun (congrFun hR5 47) _).trans ((up_j (by decide)).trans ((congrFun (congrFun hR4 47) _).trans (up_s))))))).trans h
    | 4, h => exact ((congrFun (congrFun hR6 47) _).trans ((up_j (by decide)).trans ((congrFun (w5.1 47 (by decide) (by decide)) _).trans ((congrFun (congrFun hR5 47) _).trans (up_s))))).trans h
    | 5, h => exact ((congrFun (congrFun hR6 47) _).trans (up_s)).trans h
    | 6, h => exact nomatch (show (none : Option Nat) = some q from h)
    | j + 7, h => exact nomatch (show (none : Option Nat) = some q from h)
  refine ⟨R6, ?_, CS_IC c6 hp⟩
  simp (disch := first | assumption | omega | exact bi_lo | exact bi_hi | exact bi_01 | exact jcmp_lo | exact jcmp_hi | exact (jor_r _ _).1 | exact (jor_r _ _).2 | exact (jand_r _ _).1 | exact (jand_r _ _).2) only [x82_0, x82_1, kb_some, kb_none, clr_vi, clr_ref, clr_null, clr_none, va_rf_some, va_rf_none, ↓bi_ite_t, ↓bi_ite_f, ↓jc_lt_t, ↓jc_lt_f, ↓jc_gt_t, ↓jc_gt_f, ↓jc_le_t, ↓jc_le_f, ↓jc_ge_t, ↓jc_ge_f, ↓jc_eq_t, ↓jc_eq_f, ↓if_pos, ↓if_neg]
  rw [e0, e1, e2, e3, e4, e5]
  simp (disch := first | assumption | omega | exact bi_lo | exact bi_hi | exact bi_01 | exact jcmp_lo | exact jcmp_hi | exact (jor_r _ _).1 | exact (jor_r _ _).2 | exact (jand_r _ _).1 | exact (jand_r _ _).2) only [x82_57, kb_some, kb_none, clr_vi, clr_ref, clr_null, clr_none, va_rf_some, va_rf_none, ↓bi_ite_t, ↓bi_ite_f, ↓jc_lt_t, ↓jc_lt_f, ↓jc_gt_t, ↓jc_gt_f, ↓jc_le_t, ↓jc_le_f, ↓jc_ge_t, ↓jc_ge_f, ↓jc_eq_t, ↓jc_eq_f, ↓if_pos, ↓if_neg]
theorem ci_20 (h : FRS 56 J K R) : ∃ R', EE (d) 0 0 [some (.ref 55), some (vi 0)] [] (TS L 56) J K R = ok none (TS L 57) J K R' ∧ IC 55 56 57 J K R R' := by
  have c0 : CS 55 56 56 0 J K R R := CS_0 h
  have jf0 := (fr_rw0 c0.1).1
  have kf0 := (fr_rw0 c0.1).2.1
  have rf0 := (fr_rw0 c0.1).2.2
  have c1 := CS_arr (f := 0) c0 (by omega) (by omega) R0_56
  have e0 : EE (d) 0 4 [some (.ref 55), some (vi 0)] [] (TS L 56) J K R = EE (d) 0 15 [some (.ref 55), some (vi 0)] [] (TS L 57) J K (mm_up R 55 0 (some 56)) := by
    have s55 : (TS L 57)[55]? = some (0, 2) := rfl
    simp (disch := first | assumption | omega | exact bi_lo | exact bi_hi | exact bi_01 | exact jcmp_lo | exact jcmp_hi | exact (jor_r _ _).1 | exact (jor_r _ _).2 | exact (jand_r _ _).1 | exact (jand_r _ _).2) only [x0_4, x0_5, x0_6, x0_7, x0_10, x0_12, kb_some, kb_none, clr_vi, clr_ref, clr_null, clr_none, va_rf_some, va_rf_none, ↓bi_ite_t, ↓bi_ite_f, ↓jc_lt_t, ↓jc_lt_f, ↓jc_gt_t, ↓jc_gt_f, ↓jc_le_t, ↓jc_le_f, ↓jc_ge_t, ↓jc_ge_f, ↓jc_eq_t, ↓jc_eq_f, ↓if_pos, ↓if_neg, Int.reduceToNat, tl_56, tk_56, jf0, kf0, rf0]
  -- 1
  obtain ⟨R1, hR1⟩ : ∃ X, X = mm_up R 55 0 (some 56) := ⟨_, rfl⟩
  rw [← hR1] at e0 c1
  have hp : PR 55 R1 := by
    intro j q h
    match j, h with
    | 0, h => exact ((congrFun (congrFun hR1 55) _).trans (up_s)).trans h
    | 1, h => exact nomatch (show (none : Option Nat) = some q from h)
    | j + 2, h => exact nomatch (show (none : Option Nat) = some q from h)
  refine ⟨R1, ?_, CS_IC c1 hp⟩
  simp (disch := first | assumption | omega | exact bi_lo | exact bi_hi | exact bi_01 | exact jcmp_lo | exact jcmp_hi | exact (jor_r _ _).1 | exact (jor_r _ _).2 | exact (jand_r _ _).1 | exact (jand_r _ _).2) only [x0_0, x0_1, kb_some, kb_none, clr_vi, clr_ref, clr_null, clr_none, va_rf_some, va_rf_none, ↓bi_ite_t, ↓bi_ite_f, ↓jc_lt_t, ↓jc_lt_f, ↓jc_gt_t, ↓jc_gt_f, ↓jc_le_t, ↓jc_le_f, ↓jc_ge_t, ↓jc_ge_f, ↓jc_eq_t, ↓jc_eq_f, ↓if_pos, ↓if_neg]
  rw [e0]
  simp (disch := first | assumption | omega | exact bi_lo | exact bi_hi | exact bi_01 | exact jcmp_lo | exact jcmp_hi | exact (jor_r _ _).1 | exact (jor_r _ _).2 | exact (jand_r _ _).1 | exact (jand_r _ _).2) only [x0_15, kb_some, kb_none, clr_vi, clr_ref, clr_null, clr_none, va_rf_some, va_rf_none, ↓bi_ite_t, ↓bi_ite_f, ↓jc_lt_t, ↓jc_lt_f, ↓jc_gt_t, ↓jc_gt_f, ↓jc_le_t, ↓jc_le_f, ↓jc_ge_t, ↓jc_ge_f, ↓jc_eq_t, ↓jc_eq_f, ↓if_pos, ↓if_neg]
theorem ci_21 (h : FRS 47 J K R) : ∃ R', EE (d + 2) 66 0 [some (.ref 46)] [] (TS L 47) J K R = ok none (TS L 57) J K R' ∧ IC 46 47 57 J K R R' := by
  have c0 : CS 46 47 47 0 J K R R := CS_0 h
  have jf0 := (fr_rw0 c0.1).1
  have kf0 := (fr_rw0 c0.1).2.1
  have rf0 := (fr_rw0 c0.1).2.2
  obtain ⟨Q0, q0, w0⟩ := ci_19 (L := L) (d := d) (J := J) (K := K) (R := R) (FRS_1 c0.1)
  have c1 := CS_obj (f := 0) c0 w0 (by omega) (by omega) (by omega)
  have e0 : EE (d + 2) 66 4 [some (.ref 46)] [] (TS L 47) J K R = EE (d + 2) 66 15 [some (.ref 46)] [] (TS L 55) J K (mm_up Q0 46 0 (some 47)) := by
    have s46 : (TS L 55)[46]? = some (8, 5) := rfl
    have s47 : (TS L 48)[47]? = some (9, 7) := rfl
    simp (disch := first | assumption | omega | exact bi_lo | exact bi_hi | exact bi_01 | exact jcmp_lo | exact jcmp_hi | exact (jor_r _ _).1 | exact (jor_r _ _).2 | exact (jand_r _ _).1 | exact (jand_r _ _).2) only [x66_4, x66_5, x66_8, x66_9, x66_12, kb_some, kb_none, clr_vi, clr_ref, clr_null, clr_none, va_rf_some, va_rf_none, ↓bi_ite_t, ↓bi_ite_f, ↓jc_lt_t, ↓jc_lt_f, ↓jc_gt_t, ↓jc_gt_f, ↓jc_le_t, ↓jc_le_f, ↓jc_ge_t, ↓jc_ge_f, ↓jc_eq_t, ↓jc_eq_f, ↓if_pos, ↓if_neg, Int.reduceToNat, tl_47, tk_47, jf0, kf0, rf0, q0]
  -- 1
  obtain ⟨R1, hR1⟩ : ∃ X, X = mm_up Q0 46 0 (some 47) := ⟨_, rfl⟩
  rw [← hR1] at e0 c1
  have jf1 := (fr_rw0 c1.1).1
  have kf1 := (fr_rw0 c1.1).2.1
  have rf1 := (fr_rw0 c1.1).2.2
  obtain ⟨Q1, q1, w1⟩ := ci_20 (L := L) (d := d + 1) (J := J) (K := K) (R := R1) (FRS_1 c1.1)
  have c2 := CS_obj (f := 1) c1 w1 (by omega) (by omega) (by omega)
  have e1 : EE (d + 2) 66 15 [some (.ref 46)] [] (TS L 55) J K R1 = EE (d + 2) 66 27 [some (.ref 46)] [] (TS L 57) J K (mm_up Q1 46 1 (some 55)) := by
    have s46 : (TS L 57)[46]? = some (8, 5) := rfl
    have s55 : (TS L 56)[55]? = some (0, 2) := rfl
    simp (disch := first | assumption | omega | exact bi_lo | exact bi_hi | exact bi_01 | exact jcmp_lo | exact jcmp_hi | exact (jor_r _ _).1 | exact (jor_r _ _).2 | exact (jand_r _ _).1 | exact (jand_r _ _).2) only [x66_15, x66_16, x66_19, x66_20, x66_21, x66_24, kb_some, kb_none, clr_vi, clr_ref, clr_null, clr_none, va_rf_some, va_rf_none, ↓bi_ite_t, ↓bi_ite_f, ↓jc_lt_t, ↓jc_lt_f, ↓jc_gt_t, ↓jc_gt_f, ↓jc_le_t, ↓jc_le_f, ↓jc_ge_t, ↓jc_ge_f, ↓jc_eq_t, ↓jc_eq_f, ↓if_pos, ↓if_neg, Int.reduceToNat, tl_55, tk_55, jf1, kf1, rf1, q1]
  -- 2
  obtain ⟨R2, hR2⟩ : ∃ X, X = mm_up Q1 46 1 (some 55) := ⟨_, rfl⟩
  rw [← hR2] at e1 c2
  have hp : PR 46 R2 := by
    intro j q h
    match j, h with
    | 0, h => exact ((congrFun (congrFun hR2 46) _).trans ((up_j (by decide)).trans ((congrFun (w1.1 46 (by decide) (by decide)) _).trans ((congrFun (congrFun hR1 46) _).trans (up_s))))).trans h
    | 1, h => exact nomatch (show (none : Option Nat) = some q from h)
    | 2, h => exact nomatch (show (none : Option Nat) = some q from h)
    | 3, h => exact nomatch (show (none : Option Nat) = some q from h)
    | 4, h => exact nomatch (show (none : Option Nat) = some q from h)
    | j + 5, h => exact nomatch (show (none : Option Nat) = some q from h)
  refine ⟨R2, ?_, CS_IC c2 hp⟩
  simp (disch := first | assumption | omega | exact bi_lo | exact bi_hi | exact bi_01 | exact jcmp_lo | exact jcmp_hi | exact (jor_r _ _).1 | exact (jor_r _ _).2 | exact (jand_r _ _).1 | exact (jand_r _ _).2) only [x66_0, x66_1, kb_some, kb_none, clr_vi, clr_ref, clr_null, clr_none, va_rf_some, va_rf_none, ↓bi_ite_t, ↓bi_ite_f, ↓jc_lt_t, ↓jc_lt_f, ↓jc_gt_t, ↓jc_gt_f, ↓jc_le_t, ↓jc_le_f, ↓jc_ge_t, ↓jc_ge_f, ↓jc_eq_t, ↓jc_eq_f, ↓if_pos, ↓if_neg]
  rw [e0, e1]
  simp (disch := first | assumption | omega | exact bi_lo | exact bi_hi | exact bi_01 | exact jcmp_lo | exact jcmp_hi | exact (jor_r _ _).1 | exact (jor_r _ _).2 | exact (jand_r _ _).1 | exact (jand_r _ _).2) only [x66_27, kb_some, kb_none, clr_vi, clr_ref, clr_null, clr_none, va_rf_some, va_rf_none, ↓bi_ite_t, ↓bi_ite_f, ↓jc_lt_t, ↓jc_lt_f, ↓jc_gt_t, ↓jc_gt_f, ↓jc_le_t, ↓jc_le_f, ↓jc_ge_t, ↓jc_ge_f, ↓jc_eq_t, ↓jc_eq_f, ↓if_pos, ↓if_neg]
theorem ci_22 (h : FRS 59 J K R) : ∃ R', EE (d) 0 0 [some (.ref 58), some (vi 240)] [] (TS L 59) J K R = ok none (TS L 60) J K R' ∧ IC 58 59 60 J K R R' := by
  have c0 : CS 58 59 59 0 J K R R := CS_0 h
  have jf0 := (fr_rw0 c0.1).1
  have kf0 := (fr_rw0 c0.1).2.1
  have rf0 := (fr_rw0 c0.1).2.2
  have c1 := CS_arr (f := 0) c0 (by omega) (by omega) R0_59
  have e0 : EE (d) 0 4 [some (.ref 58), some (vi 240)] [] (TS L 59) J K R = EE (d) 0 15 [some (.ref 58), some (vi 240)] [] (TS L 60) J K (mm_up R 58 0 (some 59)) := by
    have s58 : (TS L 60)[58]? = some (0, 2) := rfl
    simp (disch := first | assumption | omega | exact bi_lo | exact bi_hi | exact bi_01 | exact jcmp_lo | exact jcmp_hi | exact (jor_r _ _).1 | exact (jor_r _ _).2 | exact (jand_r _ _).1 | exact (jand_r _ _).2) only [x0_4, x0_5, x0_6, x0_7, x0_10, x0_12, kb_some, kb_none, clr_vi, clr_ref, clr_null, clr_none, va_rf_some, va_rf_none, ↓bi_ite_t, ↓bi_ite_f, ↓jc_lt_t, ↓jc_lt_f, ↓jc_gt_t, ↓jc_gt_f, ↓jc_le_t, ↓jc_le_f, ↓jc_ge_t, ↓jc_ge_f, ↓jc_eq_t, ↓jc_eq_f, ↓if_pos, ↓if_neg, Int.reduceToNat, tl_59, tk_59, jf0, kf0, rf0]
  -- 1
  obtain ⟨R1, hR1⟩ : ∃ X, X = mm_up R 58 0 (some 59) := ⟨_, rfl⟩
  rw [← hR1] at e0 c1
  have hp : PR 58 R1 := by
    intro j q h
    match j, h with
    | 0, h => exact ((congrFun (congrFun hR1 58) _).trans (up_s)).trans h
    | 1, h => exact nomatch (show (none : Option Nat) = some q from h)
    | j + 2, h => exact nomatch (show (none : Option Nat) = some q from h)
  refine ⟨R1, ?_, CS_IC c1 hp⟩
  simp (disch := first | assumption | omega | exact bi_lo | exact bi_hi | exact bi_01 | exact jcmp_lo | exact jcmp_hi | exact (jor_r _ _).1 | exact (jor_r _ _).2 | exact (jand_r _ _).1 | exact (jand_r _ _).2) only [x0_0, x0_1, kb_some, kb_none, clr_vi, clr_ref, clr_null, clr_none, va_rf_some, va_rf_none, ↓bi_ite_t, ↓bi_ite_f, ↓jc_lt_t, ↓jc_lt_f, ↓jc_gt_t, ↓jc_gt_f, ↓jc_le_t, ↓jc_le_f, ↓jc_ge_t, ↓jc_ge_f, ↓jc_eq_t, ↓jc_eq_f, ↓if_pos, ↓if_neg]
  rw [e0]
  simp (disch := first | assumption | omega | exact bi_lo | exact bi_hi | exact bi_01 | exact jcmp_lo | exact jcmp_hi | exact (jor_r _ _).1 | exact (jor_r _ _).2 | exact (jand_r _ _).1 | exact (jand_r _ _).2) only [x0_15, kb_some, kb_none, clr_vi, clr_ref, clr_null, clr_none, va_rf_some, va_rf_none, ↓bi_ite_t, ↓bi_ite_f, ↓jc_lt_t, ↓jc_lt_f, ↓jc_gt_t, ↓jc_gt_f, ↓jc_le_t, ↓jc_le_f, ↓jc_ge_t, ↓jc_ge_f, ↓jc_eq_t, ↓jc_eq_f, ↓if_pos, ↓if_neg]
theorem ci_23 (h : FRS 58 J K R) : ∃ R', EE (d + 1) 34 0 [some (.ref 57)] [] (TS L 58) J K R = ok none (TS L 60) J K R' ∧ IC 57 58 60 J K R R' := by
  have c0 : CS 57 58 58 0 J K R R := CS_0 h
  have jf0 := (fr_rw0 c0.1).1
  have kf0 := (fr_rw0 c0.1).2.1
  have rf0 := (fr_rw0 c0.1).2.2
  obtain ⟨Q0, q0, w0⟩ := ci_22 (L := L) (d := d) (J := J) (K := K) (R := R) (FRS_1 c0.1)
  have c1 := CS_obj (f := 0) c0 w0 (by omega) (by omega) (by omega)
  have e0 : EE (d + 1) 34 4 [some (.ref 57)] [] (TS L 58) J K R = EE (d + 1) 34 18 [some (.ref 57)] [] (TS L 60) J K (mm_up Q0 57 0 (some 58)) := by
    have s57 : (TS L 60)[57]? = some (3, 2) := rfl
    have s58 : (TS L 59)[58]? = some (0, 2) := rfl
    simp (disch := first | assumption | omega | exact bi_lo | exact bi_hi | exact bi_01 | exact jcmp_lo | exact jcmp_hi | exact (jor_r _ _).1 | exact (jor_r _ _).2 | exact (jand_r _ _).1 | exact (jand_r _ _).2) only [x34_4, x34_5, x34_8, x34_9, x34_12, x34_15, kb_some, kb_none, clr_vi, clr_ref, clr_null, clr_none, va_rf_some, va_rf_none, ↓bi_ite_t, ↓bi_ite_f, ↓jc_lt_t, ↓jc_lt_f, ↓jc_gt_t, ↓jc_gt_f, ↓jc_le_t, ↓jc_le_f, ↓jc_ge_t, ↓jc_ge_f, ↓jc_eq_t, ↓jc_eq_f, ↓if_pos, ↓if_neg, Int.reduceToNat, tl_58, tk_58, jf0, kf0, rf0, q0]
  -- 1
  obtain ⟨R1, hR1⟩ : ∃ X, X = mm_up Q0 57 0 (some 58) := ⟨_, rfl⟩
  rw [← hR1] at e0 c1
  have hp : PR 57 R1 := by
    intro j q h
    match j, h with
    | 0, h => exact ((congrFun (congrFun hR1 57) _).trans (up_s)).trans h
    | 1, h => exact nomatch (show (none : Option Nat) = some q from h)
    | j + 2, h => exact nomatch (show (none : Option Nat) = some q from h)
  refine ⟨R1, ?_, CS_IC c1 hp⟩
  simp (disch := first | assumption | omega | exact bi_lo | exact bi_hi | exact bi_01 | exact jcmp_lo | exact jcmp_hi | exact (jor_r _ _).1 | exact (jor_r _ _).2 | exact (jand_r _ _).1 | exact (jand_r _ _).2) only [x34_0, x34_1, kb_some, kb_none, clr_vi, clr_ref, clr_null, clr_none, va_rf_some, va_rf_none, ↓bi_ite_t, ↓bi_ite_f, ↓jc_lt_t, ↓jc_lt_f, ↓jc_gt_t, ↓jc_gt_f, ↓jc_le_t, ↓jc_le_f, ↓jc_ge_t, ↓jc_ge_f, ↓jc_eq_t, ↓jc_eq_f, ↓if_pos, ↓if_neg]
  rw [e0]
  simp (disch := first | assumption | omega | exact bi_lo | exact bi_hi | exact bi_01 | exact jcmp_lo | exact jcmp_hi | exact (jor_r _ _).1 | exact (jor_r _ _).2 | exact (jand_r _ _).1 | exact (jand_r _ _).2) only [x34_18, kb_some, kb_none, clr_vi, clr_ref, clr_null, clr_none, va_rf_some, va_rf_none, ↓bi_ite_t, ↓bi_ite_f, ↓jc_lt_t, ↓jc_lt_f, ↓jc_gt_t, ↓jc_gt_f, ↓jc_le_t, ↓jc_le_f, ↓jc_ge_t, ↓jc_ge_f, ↓jc_eq_t, ↓jc_eq_f, ↓if_pos, ↓if_neg]
theorem ci_24 (h : FRS 62 J K R) : ∃ R', EE (d) 0 0 [some (.ref 61), some (vi 600)] [] (TS L 62) J K R = ok none (TS L 63) J K R' ∧ IC 61 62 63 J K R R' := by
  have c0 : CS 61 62 62 0 J K R R := CS_0 h
  have jf0 := (fr_rw0 c0.1).1
  have kf0 := (fr_rw0 c0.1).2.1
  have rf0 := (fr_rw0 c0.1).2.2
  have c1 := CS_arr (f := 0) c0 (by omega) (by omega) R0_62
  have e0 : EE (d) 0 4 [some (.ref 61), some (vi 600)] [] (TS L 62) J K R = EE (d) 0 15 [some (.ref 61), some (vi 600)] [] (TS L 63) J K (mm_up R 61 0 (some 62)) := by
    have s61 : (TS L 63)[61]? = some (0, 2) := rfl
    simp (disch := first | assumption | omega | exact bi_lo | exact bi_hi | exact bi_01 | exact jcmp_lo | exact jcmp_hi | exact (jor_r _ _).1 | exact (jor_r _ _).2 | exact (jand_r _ _).1 | exact (jand_r _ _).2) only [x0_4, x0_5, x0_6, x0_7, x0_10, x0_12, kb_some, kb_none, clr_vi, clr_ref, clr_null, clr_none, va_rf_some, va_rf_none, ↓bi_ite_t, ↓bi_ite_f, ↓jc_lt_t, ↓jc_lt_f, ↓jc_gt_t, ↓jc_gt_f, ↓jc_le_t, ↓jc_le_f, ↓jc_ge_t, ↓jc_ge_f, ↓jc_eq_t, ↓jc_eq_f, ↓if_pos, ↓if_neg, Int.reduceToNat, tl_62, tk_62, jf0, kf0, rf0]
  -- 1
  obtain ⟨R1, hR1⟩ : ∃ X, X = mm_up R 61 0 (some 62) := ⟨_, rfl⟩
  rw [← hR1] at e0 c1
  have hp : PR 61 R1 := by
    intro j q h
    match j, h with
    | 0, h => exact ((congrFun (congrFun hR1 61) _).trans (up_s)).trans h
    | 1, h => exact nomatch (show (none : Option Nat) = some q from h)
    | j + 2, h => exact nomatch (show (none : Option Nat) = some q from h)
  refine ⟨R1, ?_, CS_IC c1 hp⟩
  simp (disch := first | assumption | omega | exact bi_lo | exact bi_hi | exact bi_01 | exact jcmp_lo | exact jcmp_hi | exact (jor_r _ _).1 | exact (jor_r _ _).2 | exact (jand_r _ _).1 | exact (jand_r _ _).2) only [x0_0, x0_1, kb_some, kb_none, clr_vi, clr_ref, clr_null, clr_none, va_rf_some, va_rf_none, ↓bi_ite_t, ↓bi_ite_f, ↓jc_lt_t, ↓jc_lt_f, ↓jc_gt_t, ↓jc_gt_f, ↓jc_le_t, ↓jc_le_f, ↓jc_ge_t, ↓jc_ge_f, ↓jc_eq_t, ↓jc_eq_f, ↓if_pos, ↓if_neg]
  rw [e0]
  simp (disch := first | assumption | omega | exact bi_lo | exact bi_hi | exact bi_01 | exact jcmp_lo | exact jcmp_hi | exact (jor_r _ _).1 | exact (jor_r _ _).2 | exact (jand_r _ _).1 | exact (jand_r _ _).2) only [x0_15, kb_some, kb_none, clr_vi, clr_ref, clr_null, clr_none, va_rf_some, va_rf_none, ↓bi_ite_t, ↓bi_ite_f, ↓jc_lt_t, ↓jc_lt_f, ↓jc_gt_t, ↓jc_gt_f, ↓jc_le_t, ↓jc_le_f, ↓jc_ge_t, ↓jc_ge_f, ↓jc_eq_t, ↓jc_eq_f, ↓if_pos, ↓if_neg]
theorem ci_25 (h : FRS 61 J K R) : ∃ R', EE (d + 1) 47 0 [some (.ref 60)] [] (TS L 61) J K R = ok none (TS L 63) J K R' ∧ IC 60 61 63 J K R R' := by
  have c0 : CS 60 61 61 0 J K R R := CS_0 h
  have jf0 := (fr_rw0 c0.1).1
  have kf0 := (fr_rw0 c0.1).2.1
  have rf0 := (fr_rw0 c0.1).2.2
  obtain ⟨Q0, q0, w0⟩ := ci_24 (L := L) (d := d) (J := J) (K := K) (R := R) (FRS_1 c0.1)
  have c1 := CS_obj (f := 0) c0 w0 (by omega) (by omega) (by omega)
  have e0 : EE (d + 1) 47 4 [some (.ref 60)] [] (TS L 61) J K R = EE (d + 1) 47 18 [some (.ref 60)] [] (TS L 63) J K (mm_up Q0 60 0 (some 61)) := by
    have s60 : (TS L 63)[60]? = some (5, 1) := rfl
    have s61 : (TS L 62)[61]? = some (0, 2) := rfl
    simp (disch := first | assumption | omega | exact bi_lo | exact bi_hi | exact bi_01 | exact jcmp_lo | exact jcmp_hi | exact (jor_r _ _).1 | exact (jor_r _ _).2 | exact (jand_r _ _).1 | exact (jand_r _ _).2) only [x47_4, x47_5, x47_8, x47_9, x47_12, x47_15, kb_some, kb_none, clr_vi, clr_ref, clr_null, clr_none, va_rf_some, va_rf_none, ↓bi_ite_t, ↓bi_ite_f, ↓jc_lt_t, ↓jc_lt_f, ↓jc_gt_t, ↓jc_gt_f, ↓jc_le_t, ↓jc_le_f, ↓jc_ge_t, ↓jc_ge_f, ↓jc_eq_t, ↓jc_eq_f, ↓if_pos, ↓if_neg, Int.reduceToNat, tl_61, tk_61, jf0, kf0, rf0, q0]
  -- 1
  obtain ⟨R1, hR1⟩ : ∃ X, X = mm_up Q0 60 0 (some 61) := ⟨_, rfl⟩
  rw [← hR1] at e0 c1
  have hp : PR 60 R1 := by
    intro j q h
    match j, h with
    | 0, h => exact ((congrFun (congrFun hR1 60) _).trans (up_s)).trans h
    | j + 1, h => exact nomatch (show (none : Option Nat) = some q from h)
  refine ⟨R1, ?_, CS_IC c1 hp⟩
  simp (disch := first | assumption | omega | exact bi_lo | exact bi_hi | exact bi_01 | exact jcmp_lo | exact jcmp_hi | exact (jor_r _ _).1 | exact (jor_r _ _).2 | exact (jand_r _ _).1 | exact (jand_r _ _).2) only [x47_0, x47_1, kb_some, kb_none, clr_vi, clr_ref, clr_null, clr_none, va_rf_some, va_rf_none, ↓bi_ite_t, ↓bi_ite_f, ↓jc_lt_t, ↓jc_lt_f, ↓jc_gt_t, ↓jc_gt_f, ↓jc_le_t, ↓jc_le_f, ↓jc_ge_t, ↓jc_ge_f, ↓jc_eq_t, ↓jc_eq_f, ↓if_pos, ↓if_neg]
  rw [e0]
  simp (disch := first | assumption | omega | exact bi_lo | exact bi_hi | exact bi_01 | exact jcmp_lo | exact jcmp_hi | exact (jor_r _ _).1 | exact (jor_r _ _).2 | exact (jand_r _ _).1 | exact (jand_r _ _).2) only [x47_18, kb_some, kb_none, clr_vi, clr_ref, clr_null, clr_none, va_rf_some, va_rf_none, ↓bi_ite_t, ↓bi_ite_f, ↓jc_lt_t, ↓jc_lt_f, ↓jc_gt_t, ↓jc_gt_f, ↓jc_le_t, ↓jc_le_f, ↓jc_ge_t, ↓jc_ge_f, ↓jc_eq_t, ↓jc_eq_f, ↓if_pos, ↓if_neg]
end
