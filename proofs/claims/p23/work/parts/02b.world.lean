/-! the world: every cell of the class and of the reference, by what it holds -/
/-- the row of ways, where there is one -/
def exW (ad : Nat → Nat) (dA : Nat → ClassId) (σ : Sg) : va_W := if ad 99 = 0 then [] else [(ad 55, .inl (dA 0, 4, .inl (σ 55)))]
def wJ (ad : Nat → Nat) (dA : Nat → ClassId) (σ : Sg) (φ : Fl) : va_W :=
  (ad 0, .inr (10, [.ref (ad 1), .ref (ad 10), .ref (ad 13), .ref (ad 15), .ref (ad 25), .ref (ad 30), .ref (ad 35), .ref (ad 38), .ref (ad 44), .ref (ad 49), .int (σ 0 10)])) ::
  (ad 1, .inr (7, [.ref (ad 2), .ref (ad 3), .ref (ad 4), .ref (ad 5), .ref (ad 6), .ref (ad 7), .ref (ad 8), .ref (ad 9), .int (σ 1 8)])) ::
  (ad 2, .inl (dA 0, 80, .inl (σ 2))) ::
  (ad 3, .inl (dA 0, 80, .inl (σ 3))) ::
  (ad 4, .inl (dA 0, 80, .inl (σ 4))) ::
  (ad 5, .inl (dA 0, 8, .inl (σ 5))) ::
  (ad 6, .inl (dA 0, 8, .inl (σ 6))) ::
  (ad 7, .inl (dA 0, 8, .inl (σ 7))) ::
  (ad 8, .inl (dA 0, 8, .inl (σ 8))) ::
  (ad 9, .inl (dA 1, 8, .inl (σ 9))) ::
  (ad 10, .inr (0, [.ref (ad 11), .int (σ 10 1), .ref (ad 12), .int (σ 10 3)])) ::
  (ad 11, .inl (dA 2, 60, .inl (σ 11))) ::
  (ad 12, .inl (dA 0, 10, .inl (σ 12))) ::
  (ad 13, .inr (8, [.ref (ad 14)])) ::
  (ad 14, .inl (dA 0, 4, .inl (σ 14))) ::
  (ad 15, .inr (9, [.ref (ad 16)])) ::
  (ad 16, .inl (dA 4, 8, .inr (.inr (.inr (.inr (fun i => if i < 8 then some (ad (17 + i)) else none)))))) ::
  (ad 17, .inl (dA 0, 112, .inl (σ 17))) ::
  (ad 18, .inl (dA 0, 112, .inl (σ 18))) ::
  (ad 19, .inl (dA 0, 112, .inl (σ 19))) ::
  (ad 20, .inl (dA 0, 112, .inl (σ 20))) ::
  (ad 21, .inl (dA 0, 112, .inl (σ 21))) ::
  (ad 22, .inl (dA 0, 112, .inl (σ 22))) ::
  (ad 23, .inl (dA 0, 112, .inl (σ 23))) ::
  (ad 24, .inl (dA 0, 112, .inl (σ 24))) ::
  (ad 25, .inr (4, [.ref (ad 26), .ref (ad 27), .ref (ad 28), .ref (ad 29), .int (σ 25 4), .int (σ 25 5), .int (σ 25 6), .int (σ 25 7)])) ::
  (ad 26, .inl (dA 0, 8, .inl (σ 26))) ::
  (ad 27, .inl (dA 0, 8, .inl (σ 27))) ::
  (ad 28, .inl (dA 0, 8, .inl (σ 28))) ::
  (ad 29, .inl (dA 1, 8, .inl (σ 29))) ::
  (ad 30, .inr (1, [.ref (ad 31), .ref (ad 32), .ref (ad 33), .ref (ad 34), .int (σ 30 4), .int (σ 30 5)])) ::
  (ad 31, .inl (dA 0, 8, .inl (σ 31))) ::
  (ad 32, .inl (dA 0, 8, .inl (σ 32))) ::
  (ad 33, .inl (dA 1, 8, .inl (σ 33))) ::
  (ad 34, .inl (dA 1, 8, .inl (σ 34))) ::
  (ad 35, .inr (6, [.ref (ad 36), .ref (ad 37)])) ::
  (ad 36, .inl (dA 3, 8, .inr (.inr (.inl (φ 36))))) ::
  (ad 37, .inl (dA 3, 8, .inr (.inr (.inl (φ 37))))) ::
  (ad 38, .inr (3, [.ref (ad 39), .ref (ad 40), .ref (ad 41), .ref (ad 42), .ref (ad 43)])) ::
  (ad 39, .inl (dA 0, 80, .inl (σ 39))) ::
  (ad 40, .inl (dA 0, 80, .inl (σ 40))) ::
  (ad 41, .inl (dA 0, 80, .inl (σ 41))) ::
  (ad 42, .inl (dA 0, 80, .inl (σ 42))) ::
  (ad 43, .inl (dA 0, 80, .inl (σ 43))) ::
  (ad 44, .inr (2, [.ref (ad 45), .ref (ad 46), .ref (ad 47), .ref (ad 48)])) ::
  (ad 45, .inl (dA 3, 80, .inr (.inr (.inl (φ 45))))) ::
  (ad 46, .inl (dA 3, 80, .inr (.inr (.inl (φ 46))))) ::
  (ad 47, .inl (dA 3, 80, .inr (.inr (.inl (φ 47))))) ::
  (ad 48, .inl (dA 3, 80, .inr (.inr (.inl (φ 48))))) ::
  (ad 49, .inr (5, [.ref (ad 50), .ref (ad 51), .ref (ad 52)])) ::
  (ad 50, .inl (dA 0, 80, .inl (σ 50))) ::
  (ad 51, .inl (dA 1, 80, .inl (σ 51))) ::
  (ad 52, .inl (dA 0, 80, .inl (σ 52))) ::
  (ad 53, .inl (dA 0, 40, .inl (σ 53))) ::
  (ad 54, .inl (dA 0, 40, .inl (σ 54))) ::
  exW ad dA σ
def tyA (dA : Nat → ClassId) : List (ClassId × FieldType) := [(dA 0, .int), (dA 1, .boolean), (dA 2, .char), (dA 3, .float), (dA 4, .array .int)]
theorem at_0 (ad : Nat → Nat) (dA : Nat → ClassId) (σ : Sg) (φ : Fl) : (wJ ad dA σ φ)[0]? = some (ad 0, .inr (10, [.ref (ad 1), .ref (ad 10), .ref (ad 13), .ref (ad 15), .ref (ad 25), .ref (ad 30), .ref (ad 35), .ref (ad 38), .ref (ad 44), .ref (ad 49), .int (σ 0 10)])) := rfl
theorem at_1 (ad : Nat → Nat) (dA : Nat → ClassId) (σ : Sg) (φ : Fl) : (wJ ad dA σ φ)[1]? = some (ad 1, .inr (7, [.ref (ad 2), .ref (ad 3), .ref (ad 4), .ref (ad 5), .ref (ad 6), .ref (ad 7), .ref (ad 8), .ref (ad 9), .int (σ 1 8)])) := rfl
theorem at_2 (ad : Nat → Nat) (dA : Nat → ClassId) (σ : Sg) (φ : Fl) : (wJ ad dA σ φ)[2]? = some (ad 2, .inl (dA 0, 80, .inl (σ 2))) := rfl
theorem at_3 (ad : Nat → Nat) (dA : Nat → ClassId) (σ : Sg) (φ : Fl) : (wJ ad dA σ φ)[3]? = some (ad 3, .inl (dA 0, 80, .inl (σ 3))) := rfl
theorem at_4 (ad : Nat → Nat) (dA : Nat → ClassId) (σ : Sg) (φ : Fl) : (wJ ad dA σ φ)[4]? = some (ad 4, .inl (dA 0, 80, .inl (σ 4))) := rfl
theorem at_5 (ad : Nat → Nat) (dA : Nat → ClassId) (σ : Sg) (φ : Fl) : (wJ ad dA σ φ)[5]? = some (ad 5, .inl (dA 0, 8, .inl (σ 5))) := rfl
theorem at_6 (ad : Nat → Nat) (dA : Nat → ClassId) (σ : Sg) (φ : Fl) : (wJ ad dA σ φ)[6]? = some (ad 6, .inl (dA 0, 8, .inl (σ 6))) := rfl
theorem at_7 (ad : Nat → Nat) (dA : Nat → ClassId) (σ : Sg) (φ : Fl) : (wJ ad dA σ φ)[7]? = some (ad 7, .inl (dA 0, 8, .inl (σ 7))) := rfl
theorem at_8 (ad : Nat → Nat) (dA : Nat → ClassId) (σ : Sg) (φ : Fl) : (wJ ad dA σ φ)[8]? = some (ad 8, .inl (dA 0, 8, .inl (σ 8))) := rfl
theorem at_9 (ad : Nat → Nat) (dA : Nat → ClassId) (σ : Sg) (φ : Fl) : (wJ ad dA σ φ)[9]? = some (ad 9, .inl (dA 1, 8, .inl (σ 9))) := rfl
theorem at_10 (ad : Nat → Nat) (dA : Nat → ClassId) (σ : Sg) (φ : Fl) : (wJ ad dA σ φ)[10]? = some (ad 10, .inr (0, [.ref (ad 11), .int (σ 10 1), .ref (ad 12), .int (σ 10 3)])) := rfl
theorem at_11 (ad : Nat → Nat) (dA : Nat → ClassId) (σ : Sg) (φ : Fl) : (wJ ad dA σ φ)[11]? = some (ad 11, .inl (dA 2, 60, .inl (σ 11))) := rfl
theorem at_12 (ad : Nat → Nat) (dA : Nat → ClassId) (σ : Sg) (φ : Fl) : (wJ ad dA σ φ)[12]? = some (ad 12, .inl (dA 0, 10, .inl (σ 12))) := rfl
theorem at_13 (ad : Nat → Nat) (dA : Nat → ClassId) (σ : Sg) (φ : Fl) : (wJ ad dA σ φ)[13]? = some (ad 13, .inr (8, [.ref (ad 14)])) := rfl
theorem at_14 (ad : Nat → Nat) (dA : Nat → ClassId) (σ : Sg) (φ : Fl) : (wJ ad dA σ φ)[14]? = some (ad 14, .inl (dA 0, 4, .inl (σ 14))) := rfl
theorem at_15 (ad : Nat → Nat) (dA : Nat → ClassId) (σ : Sg) (φ : Fl) : (wJ ad dA σ φ)[15]? = some (ad 15, .inr (9, [.ref (ad 16)])) := rfl
theorem at_16 (ad : Nat → Nat) (dA : Nat → ClassId) (σ : Sg) (φ : Fl) : (wJ ad dA σ φ)[16]? = some (ad 16, .inl (dA 4, 8, .inr (.inr (.inr (.inr (fun i => if i < 8 then some (ad (17 + i)) else none)))))) := rfl
theorem at_17 (ad : Nat → Nat) (dA : Nat → ClassId) (σ : Sg) (φ : Fl) : (wJ ad dA σ φ)[17]? = some (ad 17, .inl (dA 0, 112, .inl (σ 17))) := rfl
theorem at_18 (ad : Nat → Nat) (dA : Nat → ClassId) (σ : Sg) (φ : Fl) : (wJ ad dA σ φ)[18]? = some (ad 18, .inl (dA 0, 112, .inl (σ 18))) := rfl
theorem at_19 (ad : Nat → Nat) (dA : Nat → ClassId) (σ : Sg) (φ : Fl) : (wJ ad dA σ φ)[19]? = some (ad 19, .inl (dA 0, 112, .inl (σ 19))) := rfl
theorem at_20 (ad : Nat → Nat) (dA : Nat → ClassId) (σ : Sg) (φ : Fl) : (wJ ad dA σ φ)[20]? = some (ad 20, .inl (dA 0, 112, .inl (σ 20))) := rfl
theorem at_21 (ad : Nat → Nat) (dA : Nat → ClassId) (σ : Sg) (φ : Fl) : (wJ ad dA σ φ)[21]? = some (ad 21, .inl (dA 0, 112, .inl (σ 21))) := rfl
theorem at_22 (ad : Nat → Nat) (dA : Nat → ClassId) (σ : Sg) (φ : Fl) : (wJ ad dA σ φ)[22]? = some (ad 22, .inl (dA 0, 112, .inl (σ 22))) := rfl
theorem at_23 (ad : Nat → Nat) (dA : Nat → ClassId) (σ : Sg) (φ : Fl) : (wJ ad dA σ φ)[23]? = some (ad 23, .inl (dA 0, 112, .inl (σ 23))) := rfl
theorem at_24 (ad : Nat → Nat) (dA : Nat → ClassId) (σ : Sg) (φ : Fl) : (wJ ad dA σ φ)[24]? = some (ad 24, .inl (dA 0, 112, .inl (σ 24))) := rfl
theorem at_25 (ad : Nat → Nat) (dA : Nat → ClassId) (σ : Sg) (φ : Fl) : (wJ ad dA σ φ)[25]? = some (ad 25, .inr (4, [.ref (ad 26), .ref (ad 27), .ref (ad 28), .ref (ad 29), .int (σ 25 4), .int (σ 25 5), .int (σ 25 6), .int (σ 25 7)])) := rfl
theorem at_26 (ad : Nat → Nat) (dA : Nat → ClassId) (σ : Sg) (φ : Fl) : (wJ ad dA σ φ)[26]? = some (ad 26, .inl (dA 0, 8, .inl (σ 26))) := rfl
theorem at_27 (ad : Nat → Nat) (dA : Nat → ClassId) (σ : Sg) (φ : Fl) : (wJ ad dA σ φ)[27]? = some (ad 27, .inl (dA 0, 8, .inl (σ 27))) := rfl
theorem at_28 (ad : Nat → Nat) (dA : Nat → ClassId) (σ : Sg) (φ : Fl) : (wJ ad dA σ φ)[28]? = some (ad 28, .inl (dA 0, 8, .inl (σ 28))) := rfl
theorem at_29 (ad : Nat → Nat) (dA : Nat → ClassId) (σ : Sg) (φ : Fl) : (wJ ad dA σ φ)[29]? = some (ad 29, .inl (dA 1, 8, .inl (σ 29))) := rfl
theorem at_30 (ad : Nat → Nat) (dA : Nat → ClassId) (σ : Sg) (φ : Fl) : (wJ ad dA σ φ)[30]? = some (ad 30, .inr (1, [.ref (ad 31), .ref (ad 32), .ref (ad 33), .ref (ad 34), .int (σ 30 4), .int (σ 30 5)])) := rfl
theorem at_31 (ad : Nat → Nat) (dA : Nat → ClassId) (σ : Sg) (φ : Fl) : (wJ ad dA σ φ)[31]? = some (ad 31, .inl (dA 0, 8, .inl (σ 31))) := rfl
theorem at_32 (ad : Nat → Nat) (dA : Nat → ClassId) (σ : Sg) (φ : Fl) : (wJ ad dA σ φ)[32]? = some (ad 32, .inl (dA 0, 8, .inl (σ 32))) := rfl
theorem at_33 (ad : Nat → Nat) (dA : Nat → ClassId) (σ : Sg) (φ : Fl) : (wJ ad dA σ φ)[33]? = some (ad 33, .inl (dA 1, 8, .inl (σ 33))) := rfl
theorem at_34 (ad : Nat → Nat) (dA : Nat → ClassId) (σ : Sg) (φ : Fl) : (wJ ad dA σ φ)[34]? = some (ad 34, .inl (dA 1, 8, .inl (σ 34))) := rfl
theorem at_35 (ad : Nat → Nat) (dA : Nat → ClassId) (σ : Sg) (φ : Fl) : (wJ ad dA σ φ)[35]? = some (ad 35, .inr (6, [.ref (ad 36), .ref (ad 37)])) := rfl
theorem at_36 (ad : Nat → Nat) (dA : Nat → ClassId) (σ : Sg) (φ : Fl) : (wJ ad dA σ φ)[36]? = some (ad 36, .inl (dA 3, 8, .inr (.inr (.inl (φ 36))))) := rfl
theorem at_37 (ad : Nat → Nat) (dA : Nat → ClassId) (σ : Sg) (φ : Fl) : (wJ ad dA σ φ)[37]? = some (ad 37, .inl (dA 3, 8, .inr (.inr (.inl (φ 37))))) := rfl
theorem at_38 (ad : Nat → Nat) (dA : Nat → ClassId) (σ : Sg) (φ : Fl) : (wJ ad dA σ φ)[38]? = some (ad 38, .inr (3, [.ref (ad 39), .ref (ad 40), .ref (ad 41), .ref (ad 42), .ref (ad 43)])) := rfl
theorem at_39 (ad : Nat → Nat) (dA : Nat → ClassId) (σ : Sg) (φ : Fl) : (wJ ad dA σ φ)[39]? = some (ad 39, .inl (dA 0, 80, .inl (σ 39))) := rfl
theorem at_40 (ad : Nat → Nat) (dA : Nat → ClassId) (σ : Sg) (φ : Fl) : (wJ ad dA σ φ)[40]? = some (ad 40, .inl (dA 0, 80, .inl (σ 40))) := rfl
theorem at_41 (ad : Nat → Nat) (dA : Nat → ClassId) (σ : Sg) (φ : Fl) : (wJ ad dA σ φ)[41]? = some (ad 41, .inl (dA 0, 80, .inl (σ 41))) := rfl
theorem at_42 (ad : Nat → Nat) (dA : Nat → ClassId) (σ : Sg) (φ : Fl) : (wJ ad dA σ φ)[42]? = some (ad 42, .inl (dA 0, 80, .inl (σ 42))) := rfl
theorem at_43 (ad : Nat → Nat) (dA : Nat → ClassId) (σ : Sg) (φ : Fl) : (wJ ad dA σ φ)[43]? = some (ad 43, .inl (dA 0, 80, .inl (σ 43))) := rfl
theorem at_44 (ad : Nat → Nat) (dA : Nat → ClassId) (σ : Sg) (φ : Fl) : (wJ ad dA σ φ)[44]? = some (ad 44, .inr (2, [.ref (ad 45), .ref (ad 46), .ref (ad 47), .ref (ad 48)])) := rfl
theorem at_45 (ad : Nat → Nat) (dA : Nat → ClassId) (σ : Sg) (φ : Fl) : (wJ ad dA σ φ)[45]? = some (ad 45, .inl (dA 3, 80, .inr (.inr (.inl (φ 45))))) := rfl
theorem at_46 (ad : Nat → Nat) (dA : Nat → ClassId) (σ : Sg) (φ : Fl) : (wJ ad dA σ φ)[46]? = some (ad 46, .inl (dA 3, 80, .inr (.inr (.inl (φ 46))))) := rfl
theorem at_47 (ad : Nat → Nat) (dA : Nat → ClassId) (σ : Sg) (φ : Fl) : (wJ ad dA σ φ)[47]? = some (ad 47, .inl (dA 3, 80, .inr (.inr (.inl (φ 47))))) := rfl
theorem at_48 (ad : Nat → Nat) (dA : Nat → ClassId) (σ : Sg) (φ : Fl) : (wJ ad dA σ φ)[48]? = some (ad 48, .inl (dA 3, 80, .inr (.inr (.inl (φ 48))))) := rfl
theorem at_49 (ad : Nat → Nat) (dA : Nat → ClassId) (σ : Sg) (φ : Fl) : (wJ ad dA σ φ)[49]? = some (ad 49, .inr (5, [.ref (ad 50), .ref (ad 51), .ref (ad 52)])) := rfl
theorem at_50 (ad : Nat → Nat) (dA : Nat → ClassId) (σ : Sg) (φ : Fl) : (wJ ad dA σ φ)[50]? = some (ad 50, .inl (dA 0, 80, .inl (σ 50))) := rfl
theorem at_51 (ad : Nat → Nat) (dA : Nat → ClassId) (σ : Sg) (φ : Fl) : (wJ ad dA σ φ)[51]? = some (ad 51, .inl (dA 1, 80, .inl (σ 51))) := rfl
theorem at_52 (ad : Nat → Nat) (dA : Nat → ClassId) (σ : Sg) (φ : Fl) : (wJ ad dA σ φ)[52]? = some (ad 52, .inl (dA 0, 80, .inl (σ 52))) := rfl
theorem at_53 (ad : Nat → Nat) (dA : Nat → ClassId) (σ : Sg) (φ : Fl) : (wJ ad dA σ φ)[53]? = some (ad 53, .inl (dA 0, 40, .inl (σ 53))) := rfl
theorem at_54 (ad : Nat → Nat) (dA : Nat → ClassId) (σ : Sg) (φ : Fl) : (wJ ad dA σ φ)[54]? = some (ad 54, .inl (dA 0, 40, .inl (σ 54))) := rfl
theorem set_0_10 (ad : Nat → Nat) (dA : Nat → ClassId) (σ : Sg) (φ : Fl) (v : Int32) : (wJ ad dA σ φ).set 0 (ad 0, .inr (10, ([.ref (ad 1), .ref (ad 10), .ref (ad 13), .ref (ad 15), .ref (ad 25), .ref (ad 30), .ref (ad 35), .ref (ad 38), .ref (ad 44), .ref (ad 49), .int (σ 0 10)] : List Value).set 10 (.int v))) = wJ ad dA (va_up σ 0 (upd (σ 0) 10 v)) φ := rfl
theorem set_1_8 (ad : Nat → Nat) (dA : Nat → ClassId) (σ : Sg) (φ : Fl) (v : Int32) : (wJ ad dA σ φ).set 1 (ad 1, .inr (7, ([.ref (ad 2), .ref (ad 3), .ref (ad 4), .ref (ad 5), .ref (ad 6), .ref (ad 7), .ref (ad 8), .ref (ad 9), .int (σ 1 8)] : List Value).set 8 (.int v))) = wJ ad dA (va_up σ 1 (upd (σ 1) 8 v)) φ := rfl
theorem set_2 (ad : Nat → Nat) (dA : Nat → ClassId) (σ : Sg) (φ : Fl) (f : Nat → Int32) : (wJ ad dA σ φ).set 2 (ad 2, .inl (dA 0, 80, .inl f)) = wJ ad dA (va_up σ 2 f) φ := rfl
theorem set_3 (ad : Nat → Nat) (dA : Nat → ClassId) (σ : Sg) (φ : Fl) (f : Nat → Int32) : (wJ ad dA σ φ).set 3 (ad 3, .inl (dA 0, 80, .inl f)) = wJ ad dA (va_up σ 3 f) φ := rfl
theorem set_4 (ad : Nat → Nat) (dA : Nat → ClassId) (σ : Sg) (φ : Fl) (f : Nat → Int32) : (wJ ad dA σ φ).set 4 (ad 4, .inl (dA 0, 80, .inl f)) = wJ ad dA (va_up σ 4 f) φ := rfl
theorem set_5 (ad : Nat → Nat) (dA : Nat → ClassId) (σ : Sg) (φ : Fl) (f : Nat → Int32) : (wJ ad dA σ φ).set 5 (ad 5, .inl (dA 0, 8, .inl f)) = wJ ad dA (va_up σ 5 f) φ := rfl
theorem set_6 (ad : Nat → Nat) (dA : Nat → ClassId) (σ : Sg) (φ : Fl) (f : Nat → Int32) : (wJ ad dA σ φ).set 6 (ad 6, .inl (dA 0, 8, .inl f)) = wJ ad dA (va_up σ 6 f) φ := rfl
theorem set_7 (ad : Nat → Nat) (dA : Nat → ClassId) (σ : Sg) (φ : Fl) (f : Nat → Int32) : (wJ ad dA σ φ).set 7 (ad 7, .inl (dA 0, 8, .inl f)) = wJ ad dA (va_up σ 7 f) φ := rfl
theorem set_8 (ad : Nat → Nat) (dA : Nat → ClassId) (σ : Sg) (φ : Fl) (f : Nat → Int32) : (wJ ad dA σ φ).set 8 (ad 8, .inl (dA 0, 8, .inl f)) = wJ ad dA (va_up σ 8 f) φ := rfl
theorem set_9 (ad : Nat → Nat) (dA : Nat → ClassId) (σ : Sg) (φ : Fl) (f : Nat → Int32) : (wJ ad dA σ φ).set 9 (ad 9, .inl (dA 1, 8, .inl f)) = wJ ad dA (va_up σ 9 f) φ := rfl
theorem set_10_1 (ad : Nat → Nat) (dA : Nat → ClassId) (σ : Sg) (φ : Fl) (v : Int32) : (wJ ad dA σ φ).set 10 (ad 10, .inr (0, ([.ref (ad 11), .int (σ 10 1), .ref (ad 12), .int (σ 10 3)] : List Value).set 1 (.int v))) = wJ ad dA (va_up σ 10 (upd (σ 10) 1 v)) φ := rfl
theorem set_10_3 (ad : Nat → Nat) (dA : Nat → ClassId) (σ : Sg) (φ : Fl) (v : Int32) : (wJ ad dA σ φ).set 10 (ad 10, .inr (0, ([.ref (ad 11), .int (σ 10 1), .ref (ad 12), .int (σ 10 3)] : List Value).set 3 (.int v))) = wJ ad dA (va_up σ 10 (upd (σ 10) 3 v)) φ := rfl
theorem set_11 (ad : Nat → Nat) (dA : Nat → ClassId) (σ : Sg) (φ : Fl) (f : Nat → Int32) : (wJ ad dA σ φ).set 11 (ad 11, .inl (dA 2, 60, .inl f)) = wJ ad dA (va_up σ 11 f) φ := rfl
theorem set_12 (ad : Nat → Nat) (dA : Nat → ClassId) (σ : Sg) (φ : Fl) (f : Nat → Int32) : (wJ ad dA σ φ).set 12 (ad 12, .inl (dA 0, 10, .inl f)) = wJ ad dA (va_up σ 12 f) φ := rfl
theorem set_14 (ad : Nat → Nat) (dA : Nat → ClassId) (σ : Sg) (φ : Fl) (f : Nat → Int32) : (wJ ad dA σ φ).set 14 (ad 14, .inl (dA 0, 4, .inl f)) = wJ ad dA (va_up σ 14 f) φ := rfl
theorem set_17 (ad : Nat → Nat) (dA : Nat → ClassId) (σ : Sg) (φ : Fl) (f : Nat → Int32) : (wJ ad dA σ φ).set 17 (ad 17, .inl (dA 0, 112, .inl f)) = wJ ad dA (va_up σ 17 f) φ := rfl
theorem set_18 (ad : Nat → Nat) (dA : Nat → ClassId) (σ : Sg) (φ : Fl) (f : Nat → Int32) : (wJ ad dA σ φ).set 18 (ad 18, .inl (dA 0, 112, .inl f)) = wJ ad dA (va_up σ 18 f) φ := rfl
theorem set_19 (ad : Nat → Nat) (dA : Nat → ClassId) (σ : Sg) (φ : Fl) (f : Nat → Int32) : (wJ ad dA σ φ).set 19 (ad 19, .inl (dA 0, 112, .inl f)) = wJ ad dA (va_up σ 19 f) φ := rfl
theorem set_20 (ad : Nat → Nat) (dA : Nat → ClassId) (σ : Sg) (φ : Fl) (f : Nat → Int32) : (wJ ad dA σ φ).set 20 (ad 20, .inl (dA 0, 112, .inl f)) = wJ ad dA (va_up σ 20 f) φ := rfl
theorem set_21 (ad : Nat → Nat) (dA : Nat → ClassId) (σ : Sg) (φ : Fl) (f : Nat → Int32) : (wJ ad dA σ φ).set 21 (ad 21, .inl (dA 0, 112, .inl f)) = wJ ad dA (va_up σ 21 f) φ := rfl
theorem set_22 (ad : Nat → Nat) (dA : Nat → ClassId) (σ : Sg) (φ : Fl) (f : Nat → Int32) : (wJ ad dA σ φ).set 22 (ad 22, .inl (dA 0, 112, .inl f)) = wJ ad dA (va_up σ 22 f) φ := rfl
theorem set_23 (ad : Nat → Nat) (dA : Nat → ClassId) (σ : Sg) (φ : Fl) (f : Nat → Int32) : (wJ ad dA σ φ).set 23 (ad 23, .inl (dA 0, 112, .inl f)) = wJ ad dA (va_up σ 23 f) φ := rfl
theorem set_24 (ad : Nat → Nat) (dA : Nat → ClassId) (σ : Sg) (φ : Fl) (f : Nat → Int32) : (wJ ad dA σ φ).set 24 (ad 24, .inl (dA 0, 112, .inl f)) = wJ ad dA (va_up σ 24 f) φ := rfl
theorem set_25_4 (ad : Nat → Nat) (dA : Nat → ClassId) (σ : Sg) (φ : Fl) (v : Int32) : (wJ ad dA σ φ).set 25 (ad 25, .inr (4, ([.ref (ad 26), .ref (ad 27), .ref (ad 28), .ref (ad 29), .int (σ 25 4), .int (σ 25 5), .int (σ 25 6), .int (σ 25 7)] : List Value).set 4 (.int v))) = wJ ad dA (va_up σ 25 (upd (σ 25) 4 v)) φ := rfl
theorem set_25_5 (ad : Nat → Nat) (dA : Nat → ClassId) (σ : Sg) (φ : Fl) (v : Int32) : (wJ ad dA σ φ).set 25 (ad 25, .inr (4, ([.ref (ad 26), .ref (ad 27), .ref (ad 28), .ref (ad 29), .int (σ 25 4), .int (σ 25 5), .int (σ 25 6), .int (σ 25 7)] : List Value).set 5 (.int v))) = wJ ad dA (va_up σ 25 (upd (σ 25) 5 v)) φ := rfl
theorem set_25_6 (ad : Nat → Nat) (dA : Nat → ClassId) (σ : Sg) (φ : Fl) (v : Int32) : (wJ ad dA σ φ).set 25 (ad 25, .inr (4, ([.ref (ad 26), .ref (ad 27), .ref (ad 28), .ref (ad 29), .int (σ 25 4), .int (σ 25 5), .int (σ 25 6), .int (σ 25 7)] : List Value).set 6 (.int v))) = wJ ad dA (va_up σ 25 (upd (σ 25) 6 v)) φ := rfl
theorem set_25_7 (ad : Nat → Nat) (dA : Nat → ClassId) (σ : Sg) (φ : Fl) (v : Int32) : (wJ ad dA σ φ).set 25 (ad 25, .inr (4, ([.ref (ad 26), .ref (ad 27), .ref (ad 28), .ref (ad 29), .int (σ 25 4), .int (σ 25 5), .int (σ 25 6), .int (σ 25 7)] : List Value).set 7 (.int v))) = wJ ad dA (va_up σ 25 (upd (σ 25) 7 v)) φ := rfl
theorem set_26 (ad : Nat → Nat) (dA : Nat → ClassId) (σ : Sg) (φ : Fl) (f : Nat → Int32) : (wJ ad dA σ φ).set 26 (ad 26, .inl (dA 0, 8, .inl f)) = wJ ad dA (va_up σ 26 f) φ := rfl
theorem set_27 (ad : Nat → Nat) (dA : Nat → ClassId) (σ : Sg) (φ : Fl) (f : Nat → Int32) : (wJ ad dA σ φ).set 27 (ad 27, .inl (dA 0, 8, .inl f)) = wJ ad dA (va_up σ 27 f) φ := rfl
theorem set_28 (ad : Nat → Nat) (dA : Nat → ClassId) (σ : Sg) (φ : Fl) (f : Nat → Int32) : (wJ ad dA σ φ).set 28 (ad 28, .inl (dA 0, 8, .inl f)) = wJ ad dA (va_up σ 28 f) φ := rfl
theorem set_29 (ad : Nat → Nat) (dA : Nat → ClassId) (σ : Sg) (φ : Fl) (f : Nat → Int32) : (wJ ad dA σ φ).set 29 (ad 29, .inl (dA 1, 8, .inl f)) = wJ ad dA (va_up σ 29 f) φ := rfl
theorem set_30_4 (ad : Nat → Nat) (dA : Nat → ClassId) (σ : Sg) (φ : Fl) (v : Int32) : (wJ ad dA σ φ).set 30 (ad 30, .inr (1, ([.ref (ad 31), .ref (ad 32), .ref (ad 33), .ref (ad 34), .int (σ 30 4), .int (σ 30 5)] : List Value).set 4 (.int v))) = wJ ad dA (va_up σ 30 (upd (σ 30) 4 v)) φ := rfl
theorem set_30_5 (ad : Nat → Nat) (dA : Nat → ClassId) (σ : Sg) (φ : Fl) (v : Int32) : (wJ ad dA σ φ).set 30 (ad 30, .inr (1, ([.ref (ad 31), .ref (ad 32), .ref (ad 33), .ref (ad 34), .int (σ 30 4), .int (σ 30 5)] : List Value).set 5 (.int v))) = wJ ad dA (va_up σ 30 (upd (σ 30) 5 v)) φ := rfl
theorem set_31 (ad : Nat → Nat) (dA : Nat → ClassId) (σ : Sg) (φ : Fl) (f : Nat → Int32) : (wJ ad dA σ φ).set 31 (ad 31, .inl (dA 0, 8, .inl f)) = wJ ad dA (va_up σ 31 f) φ := rfl
theorem set_32 (ad : Nat → Nat) (dA : Nat → ClassId) (σ : Sg) (φ : Fl) (f : Nat → Int32) : (wJ ad dA σ φ).set 32 (ad 32, .inl (dA 0, 8, .inl f)) = wJ ad dA (va_up σ 32 f) φ := rfl
theorem set_33 (ad : Nat → Nat) (dA : Nat → ClassId) (σ : Sg) (φ : Fl) (f : Nat → Int32) : (wJ ad dA σ φ).set 33 (ad 33, .inl (dA 1, 8, .inl f)) = wJ ad dA (va_up σ 33 f) φ := rfl
theorem set_34 (ad : Nat → Nat) (dA : Nat → ClassId) (σ : Sg) (φ : Fl) (f : Nat → Int32) : (wJ ad dA σ φ).set 34 (ad 34, .inl (dA 1, 8, .inl f)) = wJ ad dA (va_up σ 34 f) φ := rfl
theorem set_36 (ad : Nat → Nat) (dA : Nat → ClassId) (σ : Sg) (φ : Fl) (f : Nat → UInt32) : (wJ ad dA σ φ).set 36 (ad 36, .inl (dA 3, 8, .inr (.inr (.inl f)))) = wJ ad dA σ (va_up φ 36 f) := rfl
theorem set_37 (ad : Nat → Nat) (dA : Nat → ClassId) (σ : Sg) (φ : Fl) (f : Nat → UInt32) : (wJ ad dA σ φ).set 37 (ad 37, .inl (dA 3, 8, .inr (.inr (.inl f)))) = wJ ad dA σ (va_up φ 37 f) := rfl
theorem set_39 (ad : Nat → Nat) (dA : Nat → ClassId) (σ : Sg) (φ : Fl) (f : Nat → Int32) : (wJ ad dA σ φ).set 39 (ad 39, .inl (dA 0, 80, .inl f)) = wJ ad dA (va_up σ 39 f) φ := rfl
theorem set_40 (ad : Nat → Nat) (dA : Nat → ClassId) (σ : Sg) (φ : Fl) (f : Nat → Int32) : (wJ ad dA σ φ).set 40 (ad 40, .inl (dA 0, 80, .inl f)) = wJ ad dA (va_up σ 40 f) φ := rfl
theorem set_41 (ad : Nat → Nat) (dA : Nat → ClassId) (σ : Sg) (φ : Fl) (f : Nat → Int32) : (wJ ad dA σ φ).set 41 (ad 41, .inl (dA 0, 80, .inl f)) = wJ ad dA (va_up σ 41 f) φ := rfl
theorem set_42 (ad : Nat → Nat) (dA : Nat → ClassId) (σ : Sg) (φ : Fl) (f : Nat → Int32) : (wJ ad dA σ φ).set 42 (ad 42, .inl (dA 0, 80, .inl f)) = wJ ad dA (va_up σ 42 f) φ := rfl
theorem set_43 (ad : Nat → Nat) (dA : Nat → ClassId) (σ : Sg) (φ : Fl) (f : Nat → Int32) : (wJ ad dA σ φ).set 43 (ad 43, .inl (dA 0, 80, .inl f)) = wJ ad dA (va_up σ 43 f) φ := rfl
theorem set_45 (ad : Nat → Nat) (dA : Nat → ClassId) (σ : Sg) (φ : Fl) (f : Nat → UInt32) : (wJ ad dA σ φ).set 45 (ad 45, .inl (dA 3, 80, .inr (.inr (.inl f)))) = wJ ad dA σ (va_up φ 45 f) := rfl
theorem set_46 (ad : Nat → Nat) (dA : Nat → ClassId) (σ : Sg) (φ : Fl) (f : Nat → UInt32) : (wJ ad dA σ φ).set 46 (ad 46, .inl (dA 3, 80, .inr (.inr (.inl f)))) = wJ ad dA σ (va_up φ 46 f) := rfl
theorem set_47 (ad : Nat → Nat) (dA : Nat → ClassId) (σ : Sg) (φ : Fl) (f : Nat → UInt32) : (wJ ad dA σ φ).set 47 (ad 47, .inl (dA 3, 80, .inr (.inr (.inl f)))) = wJ ad dA σ (va_up φ 47 f) := rfl
theorem set_48 (ad : Nat → Nat) (dA : Nat → ClassId) (σ : Sg) (φ : Fl) (f : Nat → UInt32) : (wJ ad dA σ φ).set 48 (ad 48, .inl (dA 3, 80, .inr (.inr (.inl f)))) = wJ ad dA σ (va_up φ 48 f) := rfl
theorem set_50 (ad : Nat → Nat) (dA : Nat → ClassId) (σ : Sg) (φ : Fl) (f : Nat → Int32) : (wJ ad dA σ φ).set 50 (ad 50, .inl (dA 0, 80, .inl f)) = wJ ad dA (va_up σ 50 f) φ := rfl
theorem set_51 (ad : Nat → Nat) (dA : Nat → ClassId) (σ : Sg) (φ : Fl) (f : Nat → Int32) : (wJ ad dA σ φ).set 51 (ad 51, .inl (dA 1, 80, .inl f)) = wJ ad dA (va_up σ 51 f) φ := rfl
theorem set_52 (ad : Nat → Nat) (dA : Nat → ClassId) (σ : Sg) (φ : Fl) (f : Nat → Int32) : (wJ ad dA σ φ).set 52 (ad 52, .inl (dA 0, 80, .inl f)) = wJ ad dA (va_up σ 52 f) φ := rfl
theorem set_53 (ad : Nat → Nat) (dA : Nat → ClassId) (σ : Sg) (φ : Fl) (f : Nat → Int32) : (wJ ad dA σ φ).set 53 (ad 53, .inl (dA 0, 40, .inl f)) = wJ ad dA (va_up σ 53 f) φ := rfl
theorem set_54 (ad : Nat → Nat) (dA : Nat → ClassId) (σ : Sg) (φ : Fl) (f : Nat → Int32) : (wJ ad dA σ φ).set 54 (ad 54, .inl (dA 0, 40, .inl f)) = wJ ad dA (va_up σ 54 f) φ := rfl
theorem at_row (ad : Nat → Nat) (dA : Nat → ClassId) (σ : Sg) (φ : Fl) (i : Nat) (h : i < 8) : (wJ ad dA σ φ)[17 + i]? = some (ad (17 + i), .inl (dA 0, 112, .inl (σ (17 + i)))) := by
  rcases (show i = 0 ∨ i = 1 ∨ i = 2 ∨ i = 3 ∨ i = 4 ∨ i = 5 ∨ i = 6 ∨ i = 7 by omega) with rfl | rfl | rfl | rfl | rfl | rfl | rfl | rfl <;> rfl
theorem set_row (ad : Nat → Nat) (dA : Nat → ClassId) (σ : Sg) (φ : Fl) (i : Nat) (h : i < 8) (f : Nat → Int32) : (wJ ad dA σ φ).set (17 + i) (ad (17 + i), .inl (dA 0, 112, .inl f)) = wJ ad dA (va_up σ (17 + i) f) φ := by
  rcases (show i = 0 ∨ i = 1 ∨ i = 2 ∨ i = 3 ∨ i = 4 ∨ i = 5 ∨ i = 6 ∨ i = 7 by omega) with rfl | rfl | rfl | rfl | rfl | rfl | rfl | rfl <;> rfl
theorem iu_0 : ∀ w ∈ u_ws RX0 TX0 4, w ∈ lw_all := by decide +kernel
theorem iu_1 : ∀ w ∈ u_ws RX1 TX1 6, w ∈ lw_all := by decide +kernel
theorem iu_2 : ∀ w ∈ u_ws RX2 TX2 4, w ∈ lw_all := by decide +kernel
theorem iu_3 : ∀ w ∈ u_ws RX3 TX3 5, w ∈ lw_all := by decide +kernel
theorem iu_4 : ∀ w ∈ u_ws RX4 TX4 8, w ∈ lw_all := by decide +kernel
theorem iu_5 : ∀ w ∈ u_ws RX5 TX5 3, w ∈ lw_all := by decide +kernel
theorem iu_6 : ∀ w ∈ u_ws RX6 TX6 2, w ∈ lw_all := by decide +kernel
theorem iu_7 : ∀ w ∈ u_ws RX7 TX7 9, w ∈ lw_all := by decide +kernel
theorem iu_8 : ∀ w ∈ u_ws RX8 TX8 1, w ∈ lw_all := by decide +kernel
theorem iu_9 : ∀ w ∈ u_ws RX9 TX9 1, w ∈ lw_all := by decide +kernel
theorem iu_10 : ∀ w ∈ u_ws RX10 TX10 11, w ∈ lw_all := by decide +kernel
/-! static arrays that nobody writes -/
def sa_0 (j : Nat) : Int32 := ([0, 1, 0, -1] : List Int32).getD j 0
def sa_1 (j : Nat) : Int32 := ([1, 0, -1, 0] : List Int32).getD j 0
def sa_2 (j : Nat) : Int32 := ([119, 121, 99, 103, 109, 114, 98, 107] : List Int32).getD j 0
def sa_3 (j : Nat) : Int32 := ([180, 160, 140, 120, 80, 60, 30, 10] : List Int32).getD j 0
def sa_4 (j : Nat) : Int32 := ([0, -50, 20, -40, 40, -20, 60, 0] : List Int32).getD j 0
def sa_5 (j : Nat) : Int32 := ([0, 10, -50, -40, 40, 60, -10, 0] : List Int32).getD j 0
def sa_6 (j : Nat) : Int32 := ([1, 0, 0, 0] : List Int32).getD j 0
def sa_7 (j : Nat) : Int32 := ([40, 100, 3, 2] : List Int32).getD j 0
/-- the script is one more row that nobody writes: its place tt 8, its length tt 9, its numbers from tt 10 on -/
def sa_8 (tt : Nat → Nat) (j : Nat) : Int32 := Int32.ofNat (tt (10 + j))
def STz (tt : Nat → Nat) (A : Nat → Prop) (U : State) (H : Heap) : Prop := (va_Z "CompositeDecoder" "SINE" "[I" (.ref (tt 0)) A U H ∧ va_T .int (tt 0) 4 (fun j => .int (sa_0 j)) A U H) ∧ (va_Z "CompositeDecoder" "COSINE" "[I" (.ref (tt 1)) A U H ∧ va_T .int (tt 1) 4 (fun j => .int (sa_1 j)) A U H) ∧ (va_Z "CompositeDecoder$BarText" "LETTERS" "[C" (.ref (tt 2)) A U H ∧ va_T .char (tt 2) 8 (fun j => .int (sa_2 j)) A U H) ∧ (va_Z "CompositeDecoder$BarText" "BAR_LUMAS" "[I" (.ref (tt 3)) A U H ∧ va_T .int (tt 3) 8 (fun j => .int (sa_3 j)) A U H) ∧ (va_Z "CompositeDecoder$BarText" "BAR_US" "[I" (.ref (tt 4)) A U H ∧ va_T .int (tt 4) 8 (fun j => .int (sa_4 j)) A U H) ∧ (va_Z "CompositeDecoder$BarText" "BAR_VS" "[I" (.ref (tt 5)) A U H ∧ va_T .int (tt 5) 8 (fun j => .int (sa_5 j)) A U H) ∧ (va_Z "CompositeDecoder$Settings" "LOWEST" "[I" (.ref (tt 6)) A U H ∧ va_T .int (tt 6) 4 (fun j => .int (sa_6 j)) A U H) ∧ (va_Z "CompositeDecoder$Settings" "HIGHEST" "[I" (.ref (tt 7)) A U H ∧ va_T .int (tt 7) 4 (fun j => .int (sa_7 j)) A U H) ∧ va_T .int (tt 8) (tt 9) (fun j => .int (sa_8 tt j)) A U H
theorem STz.kept {tt : Nat → Nat} {A : Nat → Prop} {U : State} {H H1 : Heap} (h : STz tt A U H) (hq : ∀ a : Nat, a < H.size → ¬ A a → H1[a]? = H[a]?) : STz tt A U H1 := by
  obtain ⟨⟨a0, b0⟩, ⟨a1, b1⟩, ⟨a2, b2⟩, ⟨a3, b3⟩, ⟨a4, b4⟩, ⟨a5, b5⟩, ⟨a6, b6⟩, ⟨a7, b7⟩, c8⟩ := h
  exact ⟨⟨a0.kept hq, b0.kept hq⟩, ⟨a1.kept hq, b1.kept hq⟩, ⟨a2.kept hq, b2.kept hq⟩, ⟨a3.kept hq, b3.kept hq⟩, ⟨a4.kept hq, b4.kept hq⟩, ⟨a5.kept hq, b5.kept hq⟩, ⟨a6.kept hq, b6.kept hq⟩, ⟨a7.kept hq, b7.kept hq⟩, c8.kept hq⟩
theorem STz.moved {tt : Nat → Nat} {A : Nat → Prop} {u U : State} {H : Heap} (hvm : u.vm.Alike U.vm) (h : STz tt A u H) : STz tt A U H := by
  obtain ⟨⟨a0, b0⟩, ⟨a1, b1⟩, ⟨a2, b2⟩, ⟨a3, b3⟩, ⟨a4, b4⟩, ⟨a5, b5⟩, ⟨a6, b6⟩, ⟨a7, b7⟩, c8⟩ := h
  exact ⟨⟨a0.moved hvm, b0.moved hvm⟩, ⟨a1.moved hvm, b1.moved hvm⟩, ⟨a2.moved hvm, b2.moved hvm⟩, ⟨a3.moved hvm, b3.moved hvm⟩, ⟨a4.moved hvm, b4.moved hvm⟩, ⟨a5.moved hvm, b5.moved hvm⟩, ⟨a6.moved hvm, b6.moved hvm⟩, ⟨a7.moved hvm, b7.moved hvm⟩, c8.moved hvm⟩
/-! the contract's start and end -/
def EnvU (D : va_G) (ad : Nat → Nat) (dA : Nat → ClassId) (z0 : Nat) (tt : Nat → Nat) (U : State) : Prop :=
  va_K D vwCl (tyA dA) U ∧ NW U ∧ STz tt (fun q => z0 ≤ q) U U.heap ∧ z0 ≤ U.heap.size ∧ ∀ (σ : Sg) (φ : Fl), va_D (fun q => z0 ≤ q) (wJ ad dA σ φ)
def Wd (D : va_G) (ad : Nat → Nat) (dA : Nat → ClassId) (σ : Sg) (φ : Fl) (H : Heap) : Prop := ∃ φ0 : Fl, alF φ0 φ ∧ va_P D vwCl (wJ ad dA σ φ0) H
def PcG (D : va_G) (ad : Nat → Nat) (dA : Nat → ClassId) (z0 : Nat) (tt : Nat → Nat) (As : List Value) (σ : Sg) (φ : Fl) : Array Value → State → Prop := fun v U => (∃ As0 : List Value, v = As0.toArray ∧ alS As0 As) ∧ EnvU D ad dA z0 tt U ∧ Wd D ad dA σ φ U.heap
def alO (v w : Option Value) : Prop := alS v.toList w.toList
def QcG (D : va_G) (ad : Nat → Nat) (dA : Nat → ClassId) (z0 : Nat) (P : Option Value → Sg → Fl → Prop) : Array Value → State → Outcome → State → Prop := fun _ st oc t => (∃ (rv0 rv : Option Value) (σ : Sg) (φ : Fl), oc = .returned rv0 ∧ alO rv0 rv ∧ P rv σ φ ∧ Wd D ad dA σ φ t.heap) ∧ va_F (fun q => z0 ≤ q) st t
def MC (l : Launch) (D : va_G) (ad : Nat → Nat) (dA : Nat → ClassId) (z0 : Nat) (tt : Nat → Nat) (y : MethodName) (ws : List Cond) (rm : Room) (As : List Value) (σ : Sg) (φ : Fl) (P : Option Value → Sg → Fl → Prop) : Prop :=
  MetD lw_cs l y ws rm (PcG D ad dA z0 tt As σ φ) (QcG D ad dA z0 P) 0 0 (fun q => z0 ≤ q)
/-- a method that answers one number and leaves one world -/
abbrev Fn (rv : Option Value) (σ : Sg) (φ : Fl) : Option Value → Sg → Fl → Prop := fun r s f => r = rv ∧ s = σ ∧ f = φ
theorem EnvU.calls {D : va_G} {ad : Nat → Nat} {dA : Nat → ClassId} {z0 : Nat} {tt : Nat → Nat} {s U : State} {H : Heap} {locs : List Loc} (h : EnvU D ad dA z0 tt s) (hS : va_S (fun q => z0 ≤ q) s.heap H locs) (hU : U.heap = H) (hW : s.WarmedH U.vm) : EnvU D ad dA z0 tt U := by
  obtain ⟨hK, hN, hT, hz, hD⟩ := h
  refine ⟨va_K.moved hW.alike hK, hN.warm hW, (STz.moved hW.alike (hT.kept fun a h1 h2 => ?_)), ?_, hD⟩
  · rw [hU]; exact hS.2.1 a h1 h2
  · rw [hU]; exact Nat.le_trans hz hS.1
theorem PcG.blind {D : va_G} {ad : Nat → Nat} {dA : Nat → ClassId} {z0 : Nat} {tt : Nat → Nat} {As : List Value} {σ : Sg} {φ : Fl} : FrameBlind (PcG D ad dA z0 tt As σ φ) := by
  intro a U g mk h
  obtain ⟨h1, ⟨hK, hN, hT, hz, hD⟩, hw⟩ := h
  refine ⟨h1, ⟨va_K.moved (u := U) (U := U.calling g mk a) (Vm.Alike.refl U.vm) hK, NW.same (u := U) (U := U.calling g mk a) rfl hN, ?_, hz, hD⟩, hw⟩
  exact STz.moved (u := U) (U := U.calling g mk a) (Vm.Alike.refl U.vm) hT
/-! the judgement -/
def GK (p : Program) (l : Launch) (e : Env) (R : Room) (s : State) (m : MethodId) (args : Array Value) (below : List Frame) (meth : Method) (c : Code) (Q : State → Prop) (nL z0 : Nat) (D : va_G) (ad : Nat → Nat) (dA : Nat → ClassId) (cells slots : Nat) : KT := fun σ φ pc lv st =>
  ∀ (d : Drawn) (H : Heap) (locs : List Loc) (ls : Array Slot) (l0 : List (Nat × Value)) (st0 : List Value), s.drawn.sameBut d lw_cs → Wd D ad dA σ φ H → va_S (fun q => z0 ≤ q) s.heap H locs → lv_has ls nL l0 → alL l0 lv → alS st0 st →
    W p l e R (s.setDrawn d) m args below meth c H locs cells slots Q (F0 m pc ls st0)
/-- what stands of the machine: K is its judgement -/
def Cx (K : KT) (l : Launch) (D : va_G) (ad : Nat → Nat) (dA : Nat → ClassId) (z0 : Nat) (tt : Nat → Nat) (cc : ByteArray) (own : String) (nL : Nat) (R : Room) : Prop :=
  ∃ (p : Program) (e : Env) (s : State) (m : MethodId) (args : Array Value) (below : List Frame) (meth : Method) (c : Code) (Q : State → Prop) (cells slots : Nat),
    K = GK p l e R s m args below meth c Q nL z0 D ad dA cells slots ∧ p.tables.exec = Jvm.exec ∧ c.code = cc ∧ c.maxLocals = nL ∧ s.vm.findClass own = some m.cls ∧ (∀ w ∈ lw_all, w.before args s = true) ∧ EnvU D ad dA z0 tt s ∧ cells ≤ R.cells ∧ slots ≤ R.slots
theorem lv_narrowZ {x : Int32} (h : x = 0 ∨ x = 1) : narrow .boolean (.int x) = .int x ∧ fits .boolean (.int x) = true ∧ vp_nar .boolean x = x := by
  rcases h with rfl | rfl <;> exact ⟨rfl, rfl, rfl⟩
/-- a method of ours, from the walk of its body -/
theorem mk_MC {l : Launch} {D : va_G} {ad : Nat → Nat} {dA : Nat → ClassId} {z0 : Nat} {tt : Nat → Nat} {y : MethodName} {rm : Room} {As : List Value} {σ : Sg} {φ : Fl} {P : Option Value → Sg → Fl → Prop} {cc : ByteArray} {nL : Nat} {ret : Option FieldType} (hy : plainName y.cls = true) (hlen : (lg_sl As).length ≤ nL)
    (body : ∀ K : KT, Cx K l D ad dA z0 tt cc y.cls nL rm →
      (∀ (v : Int32) (ty : FieldType) (σ' : Sg) (φ' : Fl) (pc : Nat) (lv : List (Nat × Value)), ret = some ty → decode cc pc = .ok (.ireturn, 1) → narrow ty (.int v) = .int v → P (some (.int v)) σ' φ' → K σ' φ' pc lv [.int v]) →
      (∀ (v : UInt32) (σ' : Sg) (φ' : Fl) (pc : Nat) (lv : List (Nat × Value)), ret = some .float → decode cc pc = .ok (.freturn, 1) → P (some (.float v)) σ' φ' → K σ' φ' pc lv [.float v]) →
      (∀ (σ' : Sg) (φ' : Fl) (pc : Nat) (lv : List (Nat × Value)), ret = none → decode cc pc = .ok (.return_, 1) → P none σ' φ' → K σ' φ' pc lv []) → K σ φ 0 (lv_args 0 As) []) :
    MC l D ad dA z0 tt y (Cond.code y cc nL ret :: lw_all) rm As σ φ P := by
  refine MetD.ofW (cc := cc) (maxL := nL) (ret := ret) hy rfl ?_
  intro p e s m args below meth c s₁ B hml hv hd0
  obtain ⟨⟨As0, rfl, hAs⟩, hE, hWd⟩ := hv
  have hx := B.exec
  have hb := B.bytes
  have hr := B.returns
  have hts := atoms_spec (ws := Cond.code y cc nL ret :: lw_all) B.pre
  have hown : s.vm.findClass y.cls = some m.cls := findClass_of_methodNamed B.named
  have hlocks := B.notSynchronized
  have hl := lv_entry As0 (n := nL) (by rw [alS_sl hAs]; exact hlen)
  rw [lg_entry_eq]
  have key := body (GK p l e (headSpec (Cond.code y cc nL ret :: lw_all) rm).room s m As0.toArray below meth c (MQD lw_cs below (QcG D ad dA z0 P) As0.toArray s 0 0 (fun q => z0 ≤ q)) nL z0 D ad dA 0 0)
    ⟨p, e, s, m, As0.toArray, below, meth, c, _, 0, 0, rfl, hx, hb, hml, hown, fun w h => hts w (List.mem_cons_of_mem _ h), hE, Nat.zero_le _, Nat.zero_le _⟩ ?_ ?_ ?_
  · exact key s.drawn s.heap [] _ _ [] hd0 hWd va_S.rf hl (alL_args 0 hAs) True.intro
  · intro v ty σ' φ' pc lv e1 hdg hn hP d H locs ls l0 st0 hd hW hS hls hL hs
    obtain ⟨st1, rfl, hs1⟩ := alS_int hs
    cases alS_nil hs1
    refine W.endD hd ?_
    exact W.zret hx hb (hr.trans e1) hn (fun t ht hWm => ⟨⟨some (.int v), some (.int v), σ', φ', rfl, alS_rf _, hP, by rw [ht]; exact hW⟩, hS.F ht⟩) hS.2.2 hdg hlocks
  · intro v σ' φ' pc lv e1 hdg hP d H locs ls l0 st0 hd hW hS hls hL hs
    obtain ⟨a, st1, rfl, ha, hs1⟩ := alS_flt hs
    cases alS_nil hs1
    refine W.endD hd ?_
    exact W.fret hx hb (hr.trans e1) (fun t ht hWm => ⟨⟨some (.float a), some (.float v), σ', φ', rfl, ⟨⟨a, rfl, ha⟩, True.intro⟩, hP, by rw [ht]; exact hW⟩, hS.F ht⟩) hS.2.2 hdg hlocks
  · intro σ' φ' pc lv e1 hdg hP d H locs ls l0 st0 hd hW hS hls hL hs
    cases alS_nil hs
    refine W.endD hd ?_
    exact W.vret hx hb (hr.trans e1) (fun t ht hWm => ⟨⟨none, none, σ', φ', rfl, True.intro, hP, by rw [ht]; exact hW⟩, hS.F ht⟩) hS.2.2 hdg hlocks

