/-! the class's world: object of class ci at a (100 ci + 99), the array of its field k at a (100 ci + k), rows of arrays of arrays at a (1000 + i) .. -/
def gRow (a : Nat → Nat) (b : Nat) : Nat → Option Nat := fun i => some (a (b + i))
def wFb (t : Nat → ClassId) (a : Nat → Nat) (σ : Nat → Nat → Int32) : va_W := [(a 699, .inr (6, [.ref (a 199), .ref (a 399), .ref (a 299), .ref (a 499), .ref (a 599), .ref (a 99)])), (a 199, .inr (1, [.ref (a 100), .ref (a 101), .ref (a 102), .ref (a 103), .ref (a 104), .int (σ 105 0)])), (a 399, .inr (3, [.ref (a 300), .ref (a 301), .ref (a 302), .ref (a 303), .ref (a 304), .ref (a 305), .ref (a 306), .ref (a 307), .int (σ 308 0)])), (a 299, .inr (2, [.int (σ 200 0), .ref (a 201), .ref (a 202), .ref (a 203), .ref (a 204), .ref (a 205), .ref (a 206), .ref (a 207), .int (σ 208 0)])), (a 499, .inr (4, [.ref (a 400), .ref (a 401), .ref (a 402), .ref (a 403), .int (σ 404 0), .int (σ 405 0), .int (σ 406 0), .int (σ 407 0)])), (a 599, .inr (5, [.ref (a 500), .ref (a 501), .int (σ 502 0), .int (σ 503 0), .int (σ 504 0)])), (a 99, .inr (0, [.ref (a 0), .ref (a 1), .ref (a 2), .ref (a 3), .ref (a 4), .ref (a 5), .int (σ 6 0)])), (a 100, .inl (t 0, 4, .inl (σ 100))), (a 101, .inl (t 0, 4, .inl (σ 101))), (a 102, .inl (t 0, 4, .inl (σ 102))), (a 103, .inl (t 0, 4, .inl (σ 103))), (a 104, .inl (t 0, 4, .inl (σ 104))), (a 300, .inl (t 0, 8, .inl (σ 300))), (a 301, .inl (t 0, 8, .inl (σ 301))), (a 302, .inl (t 0, 8, .inl (σ 302))), (a 303, .inl (t 0, 8, .inl (σ 303))), (a 304, .inl (t 0, 8, .inl (σ 304))), (a 305, .inl (t 1, 8, .inl (σ 305))), (a 306, .inl (t 0, 8, .inl (σ 306))), (a 307, .inl (t 0, 8, .inl (σ 307))), (a 201, .inl (t 0, 8, .inl (σ 201))), (a 202, .inl (t 0, 8, .inl (σ 202))), (a 203, .inl (t 0, 8, .inl (σ 203))), (a 204, .inl (t 0, 8, .inl (σ 204))), (a 205, .inl (t 1, 8, .inl (σ 205))), (a 206, .inl (t 0, 8, .inl (σ 206))), (a 207, .inl (t 0, 8, .inl (σ 207))), (a 400, .inl (t 0, 256, .inl (σ 400))), (a 401, .inl (t 0, 256, .inl (σ 401))), (a 402, .inl (t 0, 8, .inl (σ 402))), (a 403, .inl (t 0, 8, .inl (σ 403))), (a 500, .inl (t 2, 8, .inr (.inr (.inr (.inr (gRow a 1000)))))), (a 501, .inl (t 2, 8, .inr (.inr (.inr (.inr (gRow a 1100)))))), (a 0, .inl (t 2, 4, .inr (.inr (.inr (.inr (gRow a 1200)))))), (a 1, .inl (t 2, 4, .inr (.inr (.inr (.inr (gRow a 1300)))))), (a 2, .inl (t 2, 4, .inr (.inr (.inr (.inr (gRow a 1400)))))), (a 3, .inl (t 0, 4, .inl (σ 3))), (a 4, .inl (t 0, 4, .inl (σ 4))), (a 5, .inl (t 0, 4, .inl (σ 5))), (a (1000 + 0), .inl (t 0, 4, .inl (σ (1000 + 0)))), (a (1000 + 1), .inl (t 0, 4, .inl (σ (1000 + 1)))), (a (1000 + 2), .inl (t 0, 4, .inl (σ (1000 + 2)))), (a (1000 + 3), .inl (t 0, 4, .inl (σ (1000 + 3)))), (a (1000 + 4), .inl (t 0, 4, .inl (σ (1000 + 4)))), (a (1000 + 5), .inl (t 0, 4, .inl (σ (1000 + 5)))), (a (1000 + 6), .inl (t 0, 4, .inl (σ (1000 + 6)))), (a (1000 + 7), .inl (t 0, 4, .inl (σ (1000 + 7)))), (a (1100 + 0), .inl (t 0, 5, .inl (σ (1100 + 0)))), (a (1100 + 1), .inl (t 0, 5, .inl (σ (1100 + 1)))), (a (1100 + 2), .inl (t 0, 5, .inl (σ (1100 + 2)))), (a (1100 + 3), .inl (t 0, 5, .inl (σ (1100 + 3)))), (a (1100 + 4), .inl (t 0, 5, .inl (σ (1100 + 4)))), (a (1100 + 5), .inl (t 0, 5, .inl (σ (1100 + 5)))), (a (1100 + 6), .inl (t 0, 5, .inl (σ (1100 + 6)))), (a (1100 + 7), .inl (t 0, 5, .inl (σ (1100 + 7)))), (a (1200 + 0), .inl (t 0, 6, .inl (σ (1200 + 0)))), (a (1200 + 1), .inl (t 0, 6, .inl (σ (1200 + 1)))), (a (1200 + 2), .inl (t 0, 6, .inl (σ (1200 + 2)))), (a (1200 + 3), .inl (t 0, 6, .inl (σ (1200 + 3)))), (a (1300 + 0), .inl (t 0, 6, .inl (σ (1300 + 0)))), (a (1300 + 1), .inl (t 0, 6, .inl (σ (1300 + 1)))), (a (1300 + 2), .inl (t 0, 6, .inl (σ (1300 + 2)))), (a (1300 + 3), .inl (t 0, 6, .inl (σ (1300 + 3)))), (a (1400 + 0), .inl (t 0, 6, .inl (σ (1400 + 0)))), (a (1400 + 1), .inl (t 0, 6, .inl (σ (1400 + 1)))), (a (1400 + 2), .inl (t 0, 6, .inl (σ (1400 + 2)))), (a (1400 + 3), .inl (t 0, 6, .inl (σ (1400 + 3))))]
theorem wFb_o0 (t : Nat → ClassId) (a : Nat → Nat) (σ : Nat → Nat → Int32) : (wFb t a σ)[6]? = some (a 99, .inr (0, [.ref (a 0), .ref (a 1), .ref (a 2), .ref (a 3), .ref (a 4), .ref (a 5), .int (σ 6 0)])) := rfl
theorem wFb_o1 (t : Nat → ClassId) (a : Nat → Nat) (σ : Nat → Nat → Int32) : (wFb t a σ)[1]? = some (a 199, .inr (1, [.ref (a 100), .ref (a 101), .ref (a 102), .ref (a 103), .ref (a 104), .int (σ 105 0)])) := rfl
theorem wFb_o2 (t : Nat → ClassId) (a : Nat → Nat) (σ : Nat → Nat → Int32) : (wFb t a σ)[3]? = some (a 299, .inr (2, [.int (σ 200 0), .ref (a 201), .ref (a 202), .ref (a 203), .ref (a 204), .ref (a 205), .ref (a 206), .ref (a 207), .int (σ 208 0)])) := rfl
theorem wFb_o3 (t : Nat → ClassId) (a : Nat → Nat) (σ : Nat → Nat → Int32) : (wFb t a σ)[2]? = some (a 399, .inr (3, [.ref (a 300), .ref (a 301), .ref (a 302), .ref (a 303), .ref (a 304), .ref (a 305), .ref (a 306), .ref (a 307), .int (σ 308 0)])) := rfl
theorem wFb_o4 (t : Nat → ClassId) (a : Nat → Nat) (σ : Nat → Nat → Int32) : (wFb t a σ)[4]? = some (a 499, .inr (4, [.ref (a 400), .ref (a 401), .ref (a 402), .ref (a 403), .int (σ 404 0), .int (σ 405 0), .int (σ 406 0), .int (σ 407 0)])) := rfl
theorem wFb_o5 (t : Nat → ClassId) (a : Nat → Nat) (σ : Nat → Nat → Int32) : (wFb t a σ)[5]? = some (a 599, .inr (5, [.ref (a 500), .ref (a 501), .int (σ 502 0), .int (σ 503 0), .int (σ 504 0)])) := rfl
theorem wFb_o6 (t : Nat → ClassId) (a : Nat → Nat) (σ : Nat → Nat → Int32) : (wFb t a σ)[0]? = some (a 699, .inr (6, [.ref (a 199), .ref (a 399), .ref (a 299), .ref (a 499), .ref (a 599), .ref (a 99)])) := rfl
theorem wFb_100 (t : Nat → ClassId) (a : Nat → Nat) (σ : Nat → Nat → Int32) : (wFb t a σ)[7]? = some (a 100, .inl (t 0, 4, .inl (σ 100))) := rfl
theorem sFb_100 (t : Nat → ClassId) (a : Nat → Nat) (σ : Nat → Nat → Int32) (k : Nat) (x : Int32) : (wFb t a σ).set 7 (a 100, .inl (t 0, 4, .inl (upd (σ 100) k x))) = wFb t a (gSt σ 100 k x) := rfl
theorem wFb_101 (t : Nat → ClassId) (a : Nat → Nat) (σ : Nat → Nat → Int32) : (wFb t a σ)[8]? = some (a 101, .inl (t 0, 4, .inl (σ 101))) := rfl
theorem sFb_101 (t : Nat → ClassId) (a : Nat → Nat) (σ : Nat → Nat → Int32) (k : Nat) (x : Int32) : (wFb t a σ).set 8 (a 101, .inl (t 0, 4, .inl (upd (σ 101) k x))) = wFb t a (gSt σ 101 k x) := rfl
theorem wFb_102 (t : Nat → ClassId) (a : Nat → Nat) (σ : Nat → Nat → Int32) : (wFb t a σ)[9]? = some (a 102, .inl (t 0, 4, .inl (σ 102))) := rfl
theorem sFb_102 (t : Nat → ClassId) (a : Nat → Nat) (σ : Nat → Nat → Int32) (k : Nat) (x : Int32) : (wFb t a σ).set 9 (a 102, .inl (t 0, 4, .inl (upd (σ 102) k x))) = wFb t a (gSt σ 102 k x) := rfl
theorem wFb_103 (t : Nat → ClassId) (a : Nat → Nat) (σ : Nat → Nat → Int32) : (wFb t a σ)[10]? = some (a 103, .inl (t 0, 4, .inl (σ 103))) := rfl
theorem sFb_103 (t : Nat → ClassId) (a : Nat → Nat) (σ : Nat → Nat → Int32) (k : Nat) (x : Int32) : (wFb t a σ).set 10 (a 103, .inl (t 0, 4, .inl (upd (σ 103) k x))) = wFb t a (gSt σ 103 k x) := rfl
theorem wFb_104 (t : Nat → ClassId) (a : Nat → Nat) (σ : Nat → Nat → Int32) : (wFb t a σ)[11]? = some (a 104, .inl (t 0, 4, .inl (σ 104))) := rfl
theorem sFb_104 (t : Nat → ClassId) (a : Nat → Nat) (σ : Nat → Nat → Int32) (k : Nat) (x : Int32) : (wFb t a σ).set 11 (a 104, .inl (t 0, 4, .inl (upd (σ 104) k x))) = wFb t a (gSt σ 104 k x) := rfl
theorem wFb_300 (t : Nat → ClassId) (a : Nat → Nat) (σ : Nat → Nat → Int32) : (wFb t a σ)[12]? = some (a 300, .inl (t 0, 8, .inl (σ 300))) := rfl
theorem sFb_300 (t : Nat → ClassId) (a : Nat → Nat) (σ : Nat → Nat → Int32) (k : Nat) (x : Int32) : (wFb t a σ).set 12 (a 300, .inl (t 0, 8, .inl (upd (σ 300) k x))) = wFb t a (gSt σ 300 k x) := rfl
theorem wFb_301 (t : Nat → ClassId) (a : Nat → Nat) (σ : Nat → Nat → Int32) : (wFb t a σ)[13]? = some (a 301, .inl (t 0, 8, .inl (σ 301))) := rfl
theorem sFb_301 (t : Nat → ClassId) (a : Nat → Nat) (σ : Nat → Nat → Int32) (k : Nat) (x : Int32) : (wFb t a σ).set 13 (a 301, .inl (t 0, 8, .inl (upd (σ 301) k x))) = wFb t a (gSt σ 301 k x) := rfl
theorem wFb_302 (t : Nat → ClassId) (a : Nat → Nat) (σ : Nat → Nat → Int32) : (wFb t a σ)[14]? = some (a 302, .inl (t 0, 8, .inl (σ 302))) := rfl
theorem sFb_302 (t : Nat → ClassId) (a : Nat → Nat) (σ : Nat → Nat → Int32) (k : Nat) (x : Int32) : (wFb t a σ).set 14 (a 302, .inl (t 0, 8, .inl (upd (σ 302) k x))) = wFb t a (gSt σ 302 k x) := rfl
theorem wFb_303 (t : Nat → ClassId) (a : Nat → Nat) (σ : Nat → Nat → Int32) : (wFb t a σ)[15]? = some (a 303, .inl (t 0, 8, .inl (σ 303))) := rfl
theorem sFb_303 (t : Nat → ClassId) (a : Nat → Nat) (σ : Nat → Nat → Int32) (k : Nat) (x : Int32) : (wFb t a σ).set 15 (a 303, .inl (t 0, 8, .inl (upd (σ 303) k x))) = wFb t a (gSt σ 303 k x) := rfl
theorem wFb_304 (t : Nat → ClassId) (a : Nat → Nat) (σ : Nat → Nat → Int32) : (wFb t a σ)[16]? = some (a 304, .inl (t 0, 8, .inl (σ 304))) := rfl
theorem sFb_304 (t : Nat → ClassId) (a : Nat → Nat) (σ : Nat → Nat → Int32) (k : Nat) (x : Int32) : (wFb t a σ).set 16 (a 304, .inl (t 0, 8, .inl (upd (σ 304) k x))) = wFb t a (gSt σ 304 k x) := rfl
theorem wFb_305 (t : Nat → ClassId) (a : Nat → Nat) (σ : Nat → Nat → Int32) : (wFb t a σ)[17]? = some (a 305, .inl (t 1, 8, .inl (σ 305))) := rfl
theorem sFb_305 (t : Nat → ClassId) (a : Nat → Nat) (σ : Nat → Nat → Int32) (k : Nat) (x : Int32) : (wFb t a σ).set 17 (a 305, .inl (t 1, 8, .inl (upd (σ 305) k x))) = wFb t a (gSt σ 305 k x) := rfl
theorem wFb_306 (t : Nat → ClassId) (a : Nat → Nat) (σ : Nat → Nat → Int32) : (wFb t a σ)[18]? = some (a 306, .inl (t 0, 8, .inl (σ 306))) := rfl
theorem sFb_306 (t : Nat → ClassId) (a : Nat → Nat) (σ : Nat → Nat → Int32) (k : Nat) (x : Int32) : (wFb t a σ).set 18 (a 306, .inl (t 0, 8, .inl (upd (σ 306) k x))) = wFb t a (gSt σ 306 k x) := rfl
theorem wFb_307 (t : Nat → ClassId) (a : Nat → Nat) (σ : Nat → Nat → Int32) : (wFb t a σ)[19]? = some (a 307, .inl (t 0, 8, .inl (σ 307))) := rfl
theorem sFb_307 (t : Nat → ClassId) (a : Nat → Nat) (σ : Nat → Nat → Int32) (k : Nat) (x : Int32) : (wFb t a σ).set 19 (a 307, .inl (t 0, 8, .inl (upd (σ 307) k x))) = wFb t a (gSt σ 307 k x) := rfl
theorem wFb_201 (t : Nat → ClassId) (a : Nat → Nat) (σ : Nat → Nat → Int32) : (wFb t a σ)[20]? = some (a 201, .inl (t 0, 8, .inl (σ 201))) := rfl
theorem sFb_201 (t : Nat → ClassId) (a : Nat → Nat) (σ : Nat → Nat → Int32) (k : Nat) (x : Int32) : (wFb t a σ).set 20 (a 201, .inl (t 0, 8, .inl (upd (σ 201) k x))) = wFb t a (gSt σ 201 k x) := rfl
theorem wFb_202 (t : Nat → ClassId) (a : Nat → Nat) (σ : Nat → Nat → Int32) : (wFb t a σ)[21]? = some (a 202, .inl (t 0, 8, .inl (σ 202))) := rfl
theorem sFb_202 (t : Nat → ClassId) (a : Nat → Nat) (σ : Nat → Nat → Int32) (k : Nat) (x : Int32) : (wFb t a σ).set 21 (a 202, .inl (t 0, 8, .inl (upd (σ 202) k x))) = wFb t a (gSt σ 202 k x) := rfl
theorem wFb_203 (t : Nat → ClassId) (a : Nat → Nat) (σ : Nat → Nat → Int32) : (wFb t a σ)[22]? = some (a 203, .inl (t 0, 8, .inl (σ 203))) := rfl
theorem sFb_203 (t : Nat → ClassId) (a : Nat → Nat) (σ : Nat → Nat → Int32) (k : Nat) (x : Int32) : (wFb t a σ).set 22 (a 203, .inl (t 0, 8, .inl (upd (σ 203) k x))) = wFb t a (gSt σ 203 k x) := rfl
theorem wFb_204 (t : Nat → ClassId) (a : Nat → Nat) (σ : Nat → Nat → Int32) : (wFb t a σ)[23]? = some (a 204, .inl (t 0, 8, .inl (σ 204))) := rfl
theorem sFb_204 (t : Nat → ClassId) (a : Nat → Nat) (σ : Nat → Nat → Int32) (k : Nat) (x : Int32) : (wFb t a σ).set 23 (a 204, .inl (t 0, 8, .inl (upd (σ 204) k x))) = wFb t a (gSt σ 204 k x) := rfl
theorem wFb_205 (t : Nat → ClassId) (a : Nat → Nat) (σ : Nat → Nat → Int32) : (wFb t a σ)[24]? = some (a 205, .inl (t 1, 8, .inl (σ 205))) := rfl
theorem sFb_205 (t : Nat → ClassId) (a : Nat → Nat) (σ : Nat → Nat → Int32) (k : Nat) (x : Int32) : (wFb t a σ).set 24 (a 205, .inl (t 1, 8, .inl (upd (σ 205) k x))) = wFb t a (gSt σ 205 k x) := rfl
theorem wFb_206 (t : Nat → ClassId) (a : Nat → Nat) (σ : Nat → Nat → Int32) : (wFb t a σ)[25]? = some (a 206, .inl (t 0, 8, .inl (σ 206))) := rfl
theorem sFb_206 (t : Nat → ClassId) (a : Nat → Nat) (σ : Nat → Nat → Int32) (k : Nat) (x : Int32) : (wFb t a σ).set 25 (a 206, .inl (t 0, 8, .inl (upd (σ 206) k x))) = wFb t a (gSt σ 206 k x) := rfl
theorem wFb_207 (t : Nat → ClassId) (a : Nat → Nat) (σ : Nat → Nat → Int32) : (wFb t a σ)[26]? = some (a 207, .inl (t 0, 8, .inl (σ 207))) := rfl
theorem sFb_207 (t : Nat → ClassId) (a : Nat → Nat) (σ : Nat → Nat → Int32) (k : Nat) (x : Int32) : (wFb t a σ).set 26 (a 207, .inl (t 0, 8, .inl (upd (σ 207) k x))) = wFb t a (gSt σ 207 k x) := rfl
theorem wFb_400 (t : Nat → ClassId) (a : Nat → Nat) (σ : Nat → Nat → Int32) : (wFb t a σ)[27]? = some (a 400, .inl (t 0, 256, .inl (σ 400))) := rfl
theorem sFb_400 (t : Nat → ClassId) (a : Nat → Nat) (σ : Nat → Nat → Int32) (k : Nat) (x : Int32) : (wFb t a σ).set 27 (a 400, .inl (t 0, 256, .inl (upd (σ 400) k x))) = wFb t a (gSt σ 400 k x) := rfl
theorem wFb_401 (t : Nat → ClassId) (a : Nat → Nat) (σ : Nat → Nat → Int32) : (wFb t a σ)[28]? = some (a 401, .inl (t 0, 256, .inl (σ 401))) := rfl
theorem sFb_401 (t : Nat → ClassId) (a : Nat → Nat) (σ : Nat → Nat → Int32) (k : Nat) (x : Int32) : (wFb t a σ).set 28 (a 401, .inl (t 0, 256, .inl (upd (σ 401) k x))) = wFb t a (gSt σ 401 k x) := rfl
theorem wFb_402 (t : Nat → ClassId) (a : Nat → Nat) (σ : Nat → Nat → Int32) : (wFb t a σ)[29]? = some (a 402, .inl (t 0, 8, .inl (σ 402))) := rfl
theorem sFb_402 (t : Nat → ClassId) (a : Nat → Nat) (σ : Nat → Nat → Int32) (k : Nat) (x : Int32) : (wFb t a σ).set 29 (a 402, .inl (t 0, 8, .inl (upd (σ 402) k x))) = wFb t a (gSt σ 402 k x) := rfl
theorem wFb_403 (t : Nat → ClassId) (a : Nat → Nat) (σ : Nat → Nat → Int32) : (wFb t a σ)[30]? = some (a 403, .inl (t 0, 8, .inl (σ 403))) := rfl
theorem sFb_403 (t : Nat → ClassId) (a : Nat → Nat) (σ : Nat → Nat → Int32) (k : Nat) (x : Int32) : (wFb t a σ).set 30 (a 403, .inl (t 0, 8, .inl (upd (σ 403) k x))) = wFb t a (gSt σ 403 k x) := rfl
theorem wFb_500 (t : Nat → ClassId) (a : Nat → Nat) (σ : Nat → Nat → Int32) : (wFb t a σ)[31]? = some (a 500, .inl (t 2, 8, .inr (.inr (.inr (.inr (gRow a 1000)))))) := rfl
theorem wFb_501 (t : Nat → ClassId) (a : Nat → Nat) (σ : Nat → Nat → Int32) : (wFb t a σ)[32]? = some (a 501, .inl (t 2, 8, .inr (.inr (.inr (.inr (gRow a 1100)))))) := rfl
theorem wFb_0 (t : Nat → ClassId) (a : Nat → Nat) (σ : Nat → Nat → Int32) : (wFb t a σ)[33]? = some (a 0, .inl (t 2, 4, .inr (.inr (.inr (.inr (gRow a 1200)))))) := rfl
theorem wFb_1 (t : Nat → ClassId) (a : Nat → Nat) (σ : Nat → Nat → Int32) : (wFb t a σ)[34]? = some (a 1, .inl (t 2, 4, .inr (.inr (.inr (.inr (gRow a 1300)))))) := rfl
theorem wFb_2 (t : Nat → ClassId) (a : Nat → Nat) (σ : Nat → Nat → Int32) : (wFb t a σ)[35]? = some (a 2, .inl (t 2, 4, .inr (.inr (.inr (.inr (gRow a 1400)))))) := rfl
theorem wFb_3 (t : Nat → ClassId) (a : Nat → Nat) (σ : Nat → Nat → Int32) : (wFb t a σ)[36]? = some (a 3, .inl (t 0, 4, .inl (σ 3))) := rfl
theorem sFb_3 (t : Nat → ClassId) (a : Nat → Nat) (σ : Nat → Nat → Int32) (k : Nat) (x : Int32) : (wFb t a σ).set 36 (a 3, .inl (t 0, 4, .inl (upd (σ 3) k x))) = wFb t a (gSt σ 3 k x) := rfl
theorem wFb_4 (t : Nat → ClassId) (a : Nat → Nat) (σ : Nat → Nat → Int32) : (wFb t a σ)[37]? = some (a 4, .inl (t 0, 4, .inl (σ 4))) := rfl
theorem sFb_4 (t : Nat → ClassId) (a : Nat → Nat) (σ : Nat → Nat → Int32) (k : Nat) (x : Int32) : (wFb t a σ).set 37 (a 4, .inl (t 0, 4, .inl (upd (σ 4) k x))) = wFb t a (gSt σ 4 k x) := rfl
theorem wFb_5 (t : Nat → ClassId) (a : Nat → Nat) (σ : Nat → Nat → Int32) : (wFb t a σ)[38]? = some (a 5, .inl (t 0, 4, .inl (σ 5))) := rfl
theorem sFb_5 (t : Nat → ClassId) (a : Nat → Nat) (σ : Nat → Nat → Int32) (k : Nat) (x : Int32) : (wFb t a σ).set 38 (a 5, .inl (t 0, 4, .inl (upd (σ 5) k x))) = wFb t a (gSt σ 5 k x) := rfl
theorem wFb_r1000 (t : Nat → ClassId) (a : Nat → Nat) (σ : Nat → Nat → Int32) : ∀ i, i < 8 → (wFb t a σ)[39 + i]? = some (a (1000 + i), .inl (t 0, 4, .inl (σ (1000 + i))))
  | 0, _ => rfl
  | 1, _ => rfl
  | 2, _ => rfl
  | 3, _ => rfl
  | 4, _ => rfl
  | 5, _ => rfl
  | 6, _ => rfl
  | 7, _ => rfl
  | i + 8, h => absurd h (by omega)
theorem sFb_r1000 (t : Nat → ClassId) (a : Nat → Nat) (σ : Nat → Nat → Int32) (k : Nat) (x : Int32) : ∀ i, i < 8 → (wFb t a σ).set (39 + i) (a (1000 + i), .inl (t 0, 4, .inl (upd (σ (1000 + i)) k x))) = wFb t a (gSt σ (1000 + i) k x)
  | 0, _ => rfl
  | 1, _ => rfl
  | 2, _ => rfl
  | 3, _ => rfl
  | 4, _ => rfl
  | 5, _ => rfl
  | 6, _ => rfl
  | 7, _ => rfl
  | i + 8, h => absurd h (by omega)
theorem wFb_r1100 (t : Nat → ClassId) (a : Nat → Nat) (σ : Nat → Nat → Int32) : ∀ i, i < 8 → (wFb t a σ)[47 + i]? = some (a (1100 + i), .inl (t 0, 5, .inl (σ (1100 + i))))
  | 0, _ => rfl
  | 1, _ => rfl
  | 2, _ => rfl
  | 3, _ => rfl
  | 4, _ => rfl
  | 5, _ => rfl
  | 6, _ => rfl
  | 7, _ => rfl
  | i + 8, h => absurd h (by omega)
theorem sFb_r1100 (t : Nat → ClassId) (a : Nat → Nat) (σ : Nat → Nat → Int32) (k : Nat) (x : Int32) : ∀ i, i < 8 → (wFb t a σ).set (47 + i) (a (1100 + i), .inl (t 0, 5, .inl (upd (σ (1100 + i)) k x))) = wFb t a (gSt σ (1100 + i) k x)
  | 0, _ => rfl
  | 1, _ => rfl
  | 2, _ => rfl
  | 3, _ => rfl
  | 4, _ => rfl
  | 5, _ => rfl
  | 6, _ => rfl
  | 7, _ => rfl
  | i + 8, h => absurd h (by omega)
theorem wFb_r1200 (t : Nat → ClassId) (a : Nat → Nat) (σ : Nat → Nat → Int32) : ∀ i, i < 4 → (wFb t a σ)[55 + i]? = some (a (1200 + i), .inl (t 0, 6, .inl (σ (1200 + i))))
  | 0, _ => rfl
  | 1, _ => rfl
  | 2, _ => rfl
  | 3, _ => rfl
  | i + 4, h => absurd h (by omega)
theorem sFb_r1200 (t : Nat → ClassId) (a : Nat → Nat) (σ : Nat → Nat → Int32) (k : Nat) (x : Int32) : ∀ i, i < 4 → (wFb t a σ).set (55 + i) (a (1200 + i), .inl (t 0, 6, .inl (upd (σ (1200 + i)) k x))) = wFb t a (gSt σ (1200 + i) k x)
  | 0, _ => rfl
  | 1, _ => rfl
  | 2, _ => rfl
  | 3, _ => rfl
  | i + 4, h => absurd h (by omega)
theorem wFb_r1300 (t : Nat → ClassId) (a : Nat → Nat) (σ : Nat → Nat → Int32) : ∀ i, i < 4 → (wFb t a σ)[59 + i]? = some (a (1300 + i), .inl (t 0, 6, .inl (σ (1300 + i))))
  | 0, _ => rfl
  | 1, _ => rfl
  | 2, _ => rfl
  | 3, _ => rfl
  | i + 4, h => absurd h (by omega)
theorem sFb_r1300 (t : Nat → ClassId) (a : Nat → Nat) (σ : Nat → Nat → Int32) (k : Nat) (x : Int32) : ∀ i, i < 4 → (wFb t a σ).set (59 + i) (a (1300 + i), .inl (t 0, 6, .inl (upd (σ (1300 + i)) k x))) = wFb t a (gSt σ (1300 + i) k x)
  | 0, _ => rfl
  | 1, _ => rfl
  | 2, _ => rfl
  | 3, _ => rfl
  | i + 4, h => absurd h (by omega)
theorem wFb_r1400 (t : Nat → ClassId) (a : Nat → Nat) (σ : Nat → Nat → Int32) : ∀ i, i < 4 → (wFb t a σ)[63 + i]? = some (a (1400 + i), .inl (t 0, 6, .inl (σ (1400 + i))))
  | 0, _ => rfl
  | 1, _ => rfl
  | 2, _ => rfl
  | 3, _ => rfl
  | i + 4, h => absurd h (by omega)
theorem sFb_r1400 (t : Nat → ClassId) (a : Nat → Nat) (σ : Nat → Nat → Int32) (k : Nat) (x : Int32) : ∀ i, i < 4 → (wFb t a σ).set (63 + i) (a (1400 + i), .inl (t 0, 6, .inl (upd (σ (1400 + i)) k x))) = wFb t a (gSt σ (1400 + i) k x)
  | 0, _ => rfl
  | 1, _ => rfl
  | 2, _ => rfl
  | 3, _ => rfl
  | i + 4, h => absurd h (by omega)
section GA
variable {p : Program} {l : Launch} {e : Env} {R : Room} {s : State} {m : MethodId} {args : Array Value} {below : List Frame} {meth : Method} {c : Code} {H : Heap} {locs : List Loc} {cells slots : Nat} {Q : State → Prop}
variable {cc : ByteArray} {pc : Nat} {ls : Array Slot} {rest : List Value} {D : va_G} {cl : List vw_C} {A : Nat → Prop} {a : Nat} {tys : List (ClassId × FieldType)} {ws : va_W} {H0 : Heap}
theorem g_aald (hexec : p.tables.exec = Jvm.exec) (hb : c.code = cc) (hK : va_K D cl tys s) (hP : va_P D cl ws H) (q0 t0 : Nat) {cA : ClassId} {n : Nat} {f : Nat → Option Nat} (ha : ws[q0]? = some (a, .inl (cA, n, .inr (.inr (.inr (.inr f)))))) (ht : tys[t0]? = some (cA, .array .int)) {i : Int32} (k : Nat) (hi : i = nI k) (hk : k < n) (hn : n ≤ 1024) {b : Nat} (hf : f k = some b) (hdg : decode cc pc = .ok (.aaload, 1))
    (kk : W p l e R s m args below meth c H locs cells slots Q (F0 m (pc + 1) ls (.ref b :: rest))) : W p l e R s m args below meth c H locs cells slots Q (F0 m pc ls (.int i :: .ref a :: rest)) := by
  subst hi
  have hin : vp_in (nI k) n := vp_in_nI hk (by omega)
  have hlt : (nI k).toNatClampNeg < n := Nat.not_le.mp fun q => hin (Or.inr q)
  refine W.aald (v := va_rf (f (nI k).toNatClampNeg)) (ty := .array .int) hexec hb (hP q0 _ ha) ((hK.2 t0 _ ht).1 n (fun j => va_rf (f j))) rfl (fun q => by cases q) (by show ¬ (nI k < 0 ∨ (arrV _ _ _).slots.size ≤ _); rw [arrV_size]; exact hin) (by show (arrV _ _ _).slots[_]? = _; rw [arrV_read _ _ hlt]) rfl rfl hdg ?_
  rw [nI_clamp (by omega), hf]
  exact kk
end GA
section GN
variable {p : Program} {l : Launch} {e : Env} {R : Room} {s : State} {m : MethodId} {args : Array Value} {below : List Frame} {meth : Method} {c : Code} {H : Heap} {locs : List Loc} {cells slots : Nat} {Q : State → Prop}
variable {cc bytes : ByteArray} {pc : Nat} {ls : Array Slot} {rest As : List Value} {D : va_G} {t : Nat → ClassId} {A : Nat → Prop} {w : va_W} {H0 : Heap} {S : Type} {wd : S → va_W}
variable {nL maxL n k index b : Nat} {ret : Option FieldType} {y : MethodName} {own C host : String} {w0 : Cond}
/-- a call of a private static method of a nest mate -/
theorem g_sn {post : Int32 → S → Prop} (F : CallFix p m c cc nL s args (w0 :: gBig) own) (hM : gMi l D t y bytes maxL ret n As w wd post) (hnw : (own, index, y, host) ∈ gNest) (h2 : Cond.static y ∈ gBig) (h4 : Cond.initialized y.cls ∈ gBig) (h5 : Cond.code y bytes maxL ret ∈ gBig)
    (hd : y.cls ≠ "java/lang/invoke/MethodHandle" ∧ y.cls ≠ "java/lang/invoke/VarHandle" ∧ (parseMethodDescriptor y.desc).map (fun d => d.parameters.length) = some k) (hR : n + 1 ≤ R.frames ∧ 8 + (maxL + 11) + 40 * n ≤ R.locals) (hkl : As.length = k)
    (hK : gK D t s) (hP : va_P D gCl w H) (hD : va_D A w) (hS : va_S A H0 H locs) (hsz : ls.size = nL) {st0 : List Value} (hst : st0 = As.reverse ++ rest) (hrest : (rest.map fun v => v.category).sum ≤ 8) (hc : cells ≤ R.cells ∧ slots ≤ R.slots) (hdg : decode cc pc = .ok (.invokestatic index, 3))
    (kk : ∀ (r : Int32) (u : S) (H1 : Heap) (locs1 : List Loc), post r u → va_P D gCl (wd u) H1 → va_D A (wd u) → va_S A H0 H1 locs1 → W p l e R s m args below meth c H1 locs1 cells slots Q (F0 m (pc + 3) ls (.int r :: rest))) :
    W p l e R s m args below meth c H locs cells slots Q (F0 m pc ls st0) := by
  subst hst
  have hG : GoodIn (w0 :: gBig) (.code y bytes maxL ret :: gBig) := gGood (fun w hw => by
    rcases List.mem_cons.mp hw with rfl | hw <;> assumption)
  have hts := F.2.2.2.2
  refine va_calli (A1 := A) (va_runSN (As := As) (rest := rest) (host := host) F (hM A) ⟨va_cnB k hts hG rfl rfl rfl (hK.2 _ hnw) (hts _ (List.mem_cons_of_mem _ h4)) hd hR, hts _ (List.mem_cons_of_mem _ h2), trivial⟩ ⟨gBlind, fun U hU hW => ⟨rfl, gK.moved hW hK, by rw [hU]; exact hP, hD⟩⟩ rfl hkl hsz rfl (lv_room hrest) hdg hc) hS (fun q _ h => h) (fun q h => h) (fun r u T1 H1 locs1 ht hvm hp hB hz hk hS1 => ?_)
  exact kk r u H1 locs1 hp (by rw [← ht]; exact hB.1) hB.2 hS1
end GN
