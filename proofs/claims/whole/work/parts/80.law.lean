/-! THE CLAIM OUT OF ONE WALK OF THE LAW'S BODY. Your part is whole_start (and what it stands on); all else here is the same for every law, but numbers. -/
def lw_P (b : Addr) (xs : List Int32) (args : Array Value) (s : State) : Prop := args = #[.ref b] ∧ s.IntsAt b xs ∧ xs.length ≤ 3072 ∧ (Jvm.Cond.and given_1 narrow_1).before args s = true
def lw_Q (_ : Array Value) (s : State) (o : Outcome) (t : State) : Prop := o = .returned (some (.int 1)) ∧ Framed s o t [] 600000 7302250
def lw_Z (below : List Frame) (a : Array Value) (s : State) : State → Prop := fun t => ∃ o, t.status = .running ∧ Ended t below o ∧ lw_Q a s o t
/-- the law's own end, with 1 on the stack, nothing written that was there before, its room as the claim has it -/
theorem lw_ret {p : Program} {l : Launch} {e : Env} {s : State} {m : MethodId} {below : List Frame} {meth : Method} {c : Code} {b : Nat} (hx : p.tables.exec = Jvm.exec) (hb : c.code = code) (hr : meth.sig.returnType = ret) (hlocks : meth.locks = false) {pc : Nat} {H : Heap} {ls : Array Slot} (hdg : decode code pc = .ok (.ireturn, 1)) : W p l e room_1 s m #[Value.ref b] below meth c H [] 600000 7302250 (lw_Z below #[Value.ref b] s) (F0 m pc ls [.int 1]) := by
  intro T hT X
  obtain ⟨fs, hret, hrun, hended, hW, hframe⟩ := X.leave (v := some (.int 1)) (hlocks := hlocks) (fun h => by rw [hr] at h; cases h)
  have hmeth' : T.vm.method? m = some meth := X.method'
  refine ⟨T.setFrames fs, ?_, .returned (some (.int 1)), hrun, hended, rfl, ⟨_, rfl⟩, hW, hframe⟩
  jvm_step X.here [X.here.top, hx, hb, hdg, hmeth', hr, ret, narrow_b1]
  (try refine ⟨rfl, ?_⟩); (try refine ⟨rfl, ?_⟩)
  first | (intro acts; rw [hret _ acts rfl rfl rfl]) | rw [hret _ _ rfl rfl rfl]
  exact Steps.refl _
/-- what holds at the law's entry: the machine, the code, the tables' words (any of lw_tbl by 'hts w (by decide +kernel)'), the script of L ints xs at the cell b, what the Statement gives of the start (any of its parts by flat_of_before) -/
def lw_At (p : Program) (s : State) (m : MethodId) (meth : Method) (c : Code) (b L : Nat) (xs : Nat → Int32) : Prop :=
  p.tables.exec = Jvm.exec ∧ c.code = code ∧ meth.sig.returnType = ret ∧ c.maxLocals = 4 ∧ s.vm.findClass R_law = some m.cls ∧ (∀ w ∈ lw_tbl, w.before #[Value.ref b] s = true) ∧ va_X b L xs s s.heap ∧ b < s.heap.size ∧ meth.locks = false ∧ (Jvm.Cond.and given_1 narrow_1).before #[Value.ref b] s = true

theorem dl0 : decode code 0 = .ok (.new 7, 3) := by decide +kernel
theorem dl3 : decode code 3 = .ok (.dup, 1) := by decide +kernel
theorem dl4 : decode code 4 = .ok (.invokespecial 9, 3) := by decide +kernel
theorem dl7 : decode code 7 = .ok (.astore_n 1, 1) := by decide +kernel
theorem dl8 : decode code 8 = .ok (.new 10, 3) := by decide +kernel
theorem dl11 : decode code 11 = .ok (.dup, 1) := by decide +kernel
theorem dl12 : decode code 12 = .ok (.invokespecial 12, 3) := by decide +kernel
theorem dl15 : decode code 15 = .ok (.astore_n 2, 1) := by decide +kernel
theorem dl16 : decode code 16 = .ok (.iconst 0, 1) := by decide +kernel
theorem dl17 : decode code 17 = .ok (.istore_n 3, 1) := by decide +kernel
theorem dl18 : decode code 18 = .ok (.iload_n 3, 1) := by decide +kernel
theorem dl19 : decode code 19 = .ok (.aload_n 0, 1) := by decide +kernel
theorem dl20 : decode code 20 = .ok (.arraylength, 1) := by decide +kernel
theorem dl21 : decode code 21 = .ok (.bipush 6, 2) := by decide +kernel
theorem dl23 : decode code 23 = .ok (.isub, 1) := by decide +kernel
theorem dl24 : decode code 24 = .ok (.if_icmp .gt 1470, 3) := by decide +kernel
theorem dl27 : decode code 27 = .ok (.aload_n 0, 1) := by decide +kernel
theorem dl28 : decode code 28 = .ok (.iload_n 3, 1) := by decide +kernel
theorem dl29 : decode code 29 = .ok (.iaload, 1) := by decide +kernel
theorem dl30 : decode code 30 = .ok (.bipush 63, 2) := by decide +kernel
theorem dl32 : decode code 32 = .ok (.iand, 1) := by decide +kernel
theorem dl33 : decode code 33 = .ok (.tableswitch 1455 0 37 #[167, 230, 253, 276, 309, 342, 365, 398, 431, 454, 477, 510, 533, 566, 599, 632, 685, 718, 751, 774, 807, 830, 863, 906, 949, 993, 1036, 1069, 1112, 1171, 1220, 1233, 1246, 1289, 1363, 1386, 1409, 1432], 167) := by decide +kernel
theorem dl200 : decode code 200 = .ok (.aload_n 1, 1) := by decide +kernel
theorem dl201 : decode code 201 = .ok (.aload_n 0, 1) := by decide +kernel
theorem dl202 : decode code 202 = .ok (.iload_n 3, 1) := by decide +kernel
theorem dl203 : decode code 203 = .ok (.iconst 1, 1) := by decide +kernel
theorem dl204 : decode code 204 = .ok (.iadd, 1) := by decide +kernel
theorem dl205 : decode code 205 = .ok (.iaload, 1) := by decide +kernel
theorem dl206 : decode code 206 = .ok (.aload_n 0, 1) := by decide +kernel
theorem dl207 : decode code 207 = .ok (.iload_n 3, 1) := by decide +kernel
theorem dl208 : decode code 208 = .ok (.iconst 2, 1) := by decide +kernel
theorem dl209 : decode code 209 = .ok (.iadd, 1) := by decide +kernel
theorem dl210 : decode code 210 = .ok (.iaload, 1) := by decide +kernel
theorem dl211 : decode code 211 = .ok (.aload_n 0, 1) := by decide +kernel
theorem dl212 : decode code 212 = .ok (.iload_n 3, 1) := by decide +kernel
theorem dl213 : decode code 213 = .ok (.iconst 3, 1) := by decide +kernel
theorem dl214 : decode code 214 = .ok (.iadd, 1) := by decide +kernel
theorem dl215 : decode code 215 = .ok (.iaload, 1) := by decide +kernel
theorem dl216 : decode code 216 = .ok (.aload_n 0, 1) := by decide +kernel
theorem dl217 : decode code 217 = .ok (.iload_n 3, 1) := by decide +kernel
theorem dl218 : decode code 218 = .ok (.iconst 4, 1) := by decide +kernel
theorem dl219 : decode code 219 = .ok (.iadd, 1) := by decide +kernel
theorem dl220 : decode code 220 = .ok (.iaload, 1) := by decide +kernel
theorem dl221 : decode code 221 = .ok (.aload_n 0, 1) := by decide +kernel
theorem dl222 : decode code 222 = .ok (.iload_n 3, 1) := by decide +kernel
theorem dl223 : decode code 223 = .ok (.iconst 5, 1) := by decide +kernel
theorem dl224 : decode code 224 = .ok (.iadd, 1) := by decide +kernel
theorem dl225 : decode code 225 = .ok (.iaload, 1) := by decide +kernel
theorem dl226 : decode code 226 = .ok (.invokevirtual 13, 3) := by decide +kernel
theorem dl229 : decode code 229 = .ok (.aload_n 2, 1) := by decide +kernel
theorem dl230 : decode code 230 = .ok (.aload_n 0, 1) := by decide +kernel
theorem dl231 : decode code 231 = .ok (.iload_n 3, 1) := by decide +kernel
theorem dl232 : decode code 232 = .ok (.iconst 1, 1) := by decide +kernel
theorem dl233 : decode code 233 = .ok (.iadd, 1) := by decide +kernel
theorem dl234 : decode code 234 = .ok (.iaload, 1) := by decide +kernel
theorem dl235 : decode code 235 = .ok (.aload_n 0, 1) := by decide +kernel
theorem dl236 : decode code 236 = .ok (.iload_n 3, 1) := by decide +kernel
theorem dl237 : decode code 237 = .ok (.iconst 2, 1) := by decide +kernel
theorem dl238 : decode code 238 = .ok (.iadd, 1) := by decide +kernel
theorem dl239 : decode code 239 = .ok (.iaload, 1) := by decide +kernel
theorem dl240 : decode code 240 = .ok (.aload_n 0, 1) := by decide +kernel
theorem dl241 : decode code 241 = .ok (.iload_n 3, 1) := by decide +kernel
theorem dl242 : decode code 242 = .ok (.iconst 3, 1) := by decide +kernel
theorem dl243 : decode code 243 = .ok (.iadd, 1) := by decide +kernel
theorem dl244 : decode code 244 = .ok (.iaload, 1) := by decide +kernel
theorem dl245 : decode code 245 = .ok (.aload_n 0, 1) := by decide +kernel
theorem dl246 : decode code 246 = .ok (.iload_n 3, 1) := by decide +kernel
theorem dl247 : decode code 247 = .ok (.iconst 4, 1) := by decide +kernel
theorem dl248 : decode code 248 = .ok (.iadd, 1) := by decide +kernel
theorem dl249 : decode code 249 = .ok (.iaload, 1) := by decide +kernel
theorem dl250 : decode code 250 = .ok (.aload_n 0, 1) := by decide +kernel
theorem dl251 : decode code 251 = .ok (.iload_n 3, 1) := by decide +kernel
theorem dl252 : decode code 252 = .ok (.iconst 5, 1) := by decide +kernel
theorem dl253 : decode code 253 = .ok (.iadd, 1) := by decide +kernel
theorem dl254 : decode code 254 = .ok (.iaload, 1) := by decide +kernel
theorem dl255 : decode code 255 = .ok (.invokevirtual 17, 3) := by decide +kernel
theorem dl258 : decode code 258 = .ok (.if_icmp .eq 1230, 3) := by decide +kernel
theorem dl261 : decode code 261 = .ok (.iconst 0, 1) := by decide +kernel
theorem dl262 : decode code 262 = .ok (.ireturn, 1) := by decide +kernel
theorem dl263 : decode code 263 = .ok (.aload_n 1, 1) := by decide +kernel
theorem dl264 : decode code 264 = .ok (.aload_n 0, 1) := by decide +kernel
theorem dl265 : decode code 265 = .ok (.iload_n 3, 1) := by decide +kernel
theorem dl266 : decode code 266 = .ok (.iconst 1, 1) := by decide +kernel
theorem dl267 : decode code 267 = .ok (.iadd, 1) := by decide +kernel
theorem dl268 : decode code 268 = .ok (.iaload, 1) := by decide +kernel
theorem dl269 : decode code 269 = .ok (.invokevirtual 18, 3) := by decide +kernel
theorem dl272 : decode code 272 = .ok (.aload_n 2, 1) := by decide +kernel
theorem dl273 : decode code 273 = .ok (.aload_n 0, 1) := by decide +kernel
theorem dl274 : decode code 274 = .ok (.iload_n 3, 1) := by decide +kernel
theorem dl275 : decode code 275 = .ok (.iconst 1, 1) := by decide +kernel
theorem dl276 : decode code 276 = .ok (.iadd, 1) := by decide +kernel
theorem dl277 : decode code 277 = .ok (.iaload, 1) := by decide +kernel
theorem dl278 : decode code 278 = .ok (.invokevirtual 22, 3) := by decide +kernel
theorem dl281 : decode code 281 = .ok (.if_icmp .eq 1207, 3) := by decide +kernel
theorem dl284 : decode code 284 = .ok (.iconst 0, 1) := by decide +kernel
theorem dl285 : decode code 285 = .ok (.ireturn, 1) := by decide +kernel
theorem dl286 : decode code 286 = .ok (.aload_n 1, 1) := by decide +kernel
theorem dl287 : decode code 287 = .ok (.aload_n 0, 1) := by decide +kernel
theorem dl288 : decode code 288 = .ok (.iload_n 3, 1) := by decide +kernel
theorem dl289 : decode code 289 = .ok (.iconst 1, 1) := by decide +kernel
theorem dl290 : decode code 290 = .ok (.iadd, 1) := by decide +kernel
theorem dl291 : decode code 291 = .ok (.iaload, 1) := by decide +kernel
theorem dl292 : decode code 292 = .ok (.invokevirtual 23, 3) := by decide +kernel
theorem dl295 : decode code 295 = .ok (.aload_n 2, 1) := by decide +kernel
theorem dl296 : decode code 296 = .ok (.aload_n 0, 1) := by decide +kernel
theorem dl297 : decode code 297 = .ok (.iload_n 3, 1) := by decide +kernel
theorem dl298 : decode code 298 = .ok (.iconst 1, 1) := by decide +kernel
theorem dl299 : decode code 299 = .ok (.iadd, 1) := by decide +kernel
theorem dl300 : decode code 300 = .ok (.iaload, 1) := by decide +kernel
theorem dl301 : decode code 301 = .ok (.invokevirtual 26, 3) := by decide +kernel
theorem dl304 : decode code 304 = .ok (.if_icmp .eq 1184, 3) := by decide +kernel
theorem dl307 : decode code 307 = .ok (.iconst 0, 1) := by decide +kernel
theorem dl308 : decode code 308 = .ok (.ireturn, 1) := by decide +kernel
theorem dl309 : decode code 309 = .ok (.aload_n 1, 1) := by decide +kernel
theorem dl310 : decode code 310 = .ok (.aload_n 0, 1) := by decide +kernel
theorem dl311 : decode code 311 = .ok (.iload_n 3, 1) := by decide +kernel
theorem dl312 : decode code 312 = .ok (.iconst 1, 1) := by decide +kernel
theorem dl313 : decode code 313 = .ok (.iadd, 1) := by decide +kernel
theorem dl314 : decode code 314 = .ok (.iaload, 1) := by decide +kernel
theorem dl315 : decode code 315 = .ok (.aload_n 0, 1) := by decide +kernel
theorem dl316 : decode code 316 = .ok (.iload_n 3, 1) := by decide +kernel
theorem dl317 : decode code 317 = .ok (.iconst 2, 1) := by decide +kernel
theorem dl318 : decode code 318 = .ok (.iadd, 1) := by decide +kernel
theorem dl319 : decode code 319 = .ok (.iaload, 1) := by decide +kernel
theorem dl320 : decode code 320 = .ok (.invokevirtual 27, 3) := by decide +kernel
theorem dl323 : decode code 323 = .ok (.aload_n 2, 1) := by decide +kernel
theorem dl324 : decode code 324 = .ok (.aload_n 0, 1) := by decide +kernel
theorem dl325 : decode code 325 = .ok (.iload_n 3, 1) := by decide +kernel
theorem dl326 : decode code 326 = .ok (.iconst 1, 1) := by decide +kernel
theorem dl327 : decode code 327 = .ok (.iadd, 1) := by decide +kernel
theorem dl328 : decode code 328 = .ok (.iaload, 1) := by decide +kernel
theorem dl329 : decode code 329 = .ok (.aload_n 0, 1) := by decide +kernel
theorem dl330 : decode code 330 = .ok (.iload_n 3, 1) := by decide +kernel
theorem dl331 : decode code 331 = .ok (.iconst 2, 1) := by decide +kernel
theorem dl332 : decode code 332 = .ok (.iadd, 1) := by decide +kernel
theorem dl333 : decode code 333 = .ok (.iaload, 1) := by decide +kernel
theorem dl334 : decode code 334 = .ok (.invokevirtual 31, 3) := by decide +kernel
theorem dl337 : decode code 337 = .ok (.if_icmp .eq 1151, 3) := by decide +kernel
theorem dl340 : decode code 340 = .ok (.iconst 0, 1) := by decide +kernel
theorem dl341 : decode code 341 = .ok (.ireturn, 1) := by decide +kernel
theorem dl342 : decode code 342 = .ok (.aload_n 1, 1) := by decide +kernel
theorem dl343 : decode code 343 = .ok (.aload_n 0, 1) := by decide +kernel
theorem dl344 : decode code 344 = .ok (.iload_n 3, 1) := by decide +kernel
theorem dl345 : decode code 345 = .ok (.iconst 1, 1) := by decide +kernel
theorem dl346 : decode code 346 = .ok (.iadd, 1) := by decide +kernel
theorem dl347 : decode code 347 = .ok (.iaload, 1) := by decide +kernel
theorem dl348 : decode code 348 = .ok (.aload_n 0, 1) := by decide +kernel
theorem dl349 : decode code 349 = .ok (.iload_n 3, 1) := by decide +kernel
theorem dl350 : decode code 350 = .ok (.iconst 2, 1) := by decide +kernel
theorem dl351 : decode code 351 = .ok (.iadd, 1) := by decide +kernel
theorem dl352 : decode code 352 = .ok (.iaload, 1) := by decide +kernel
theorem dl353 : decode code 353 = .ok (.invokevirtual 32, 3) := by decide +kernel
theorem dl356 : decode code 356 = .ok (.aload_n 2, 1) := by decide +kernel
theorem dl357 : decode code 357 = .ok (.aload_n 0, 1) := by decide +kernel
theorem dl358 : decode code 358 = .ok (.iload_n 3, 1) := by decide +kernel
theorem dl359 : decode code 359 = .ok (.iconst 1, 1) := by decide +kernel
theorem dl360 : decode code 360 = .ok (.iadd, 1) := by decide +kernel
theorem dl361 : decode code 361 = .ok (.iaload, 1) := by decide +kernel
theorem dl362 : decode code 362 = .ok (.aload_n 0, 1) := by decide +kernel
theorem dl363 : decode code 363 = .ok (.iload_n 3, 1) := by decide +kernel
theorem dl364 : decode code 364 = .ok (.iconst 2, 1) := by decide +kernel
theorem dl365 : decode code 365 = .ok (.iadd, 1) := by decide +kernel
theorem dl366 : decode code 366 = .ok (.iaload, 1) := by decide +kernel
theorem dl367 : decode code 367 = .ok (.invokevirtual 35, 3) := by decide +kernel
theorem dl370 : decode code 370 = .ok (.if_icmp .eq 1118, 3) := by decide +kernel
theorem dl373 : decode code 373 = .ok (.iconst 0, 1) := by decide +kernel
theorem dl374 : decode code 374 = .ok (.ireturn, 1) := by decide +kernel
theorem dl375 : decode code 375 = .ok (.aload_n 1, 1) := by decide +kernel
theorem dl376 : decode code 376 = .ok (.aload_n 0, 1) := by decide +kernel
theorem dl377 : decode code 377 = .ok (.iload_n 3, 1) := by decide +kernel
theorem dl378 : decode code 378 = .ok (.iconst 1, 1) := by decide +kernel
theorem dl379 : decode code 379 = .ok (.iadd, 1) := by decide +kernel
theorem dl380 : decode code 380 = .ok (.iaload, 1) := by decide +kernel
theorem dl381 : decode code 381 = .ok (.invokevirtual 36, 3) := by decide +kernel
theorem dl384 : decode code 384 = .ok (.aload_n 2, 1) := by decide +kernel
theorem dl385 : decode code 385 = .ok (.aload_n 0, 1) := by decide +kernel
theorem dl386 : decode code 386 = .ok (.iload_n 3, 1) := by decide +kernel
theorem dl387 : decode code 387 = .ok (.iconst 1, 1) := by decide +kernel
theorem dl388 : decode code 388 = .ok (.iadd, 1) := by decide +kernel
theorem dl389 : decode code 389 = .ok (.iaload, 1) := by decide +kernel
theorem dl390 : decode code 390 = .ok (.invokevirtual 39, 3) := by decide +kernel
theorem dl393 : decode code 393 = .ok (.if_icmp .eq 1095, 3) := by decide +kernel
theorem dl396 : decode code 396 = .ok (.iconst 0, 1) := by decide +kernel
theorem dl397 : decode code 397 = .ok (.ireturn, 1) := by decide +kernel
theorem dl398 : decode code 398 = .ok (.aload_n 1, 1) := by decide +kernel
theorem dl399 : decode code 399 = .ok (.aload_n 0, 1) := by decide +kernel
theorem dl400 : decode code 400 = .ok (.iload_n 3, 1) := by decide +kernel
theorem dl401 : decode code 401 = .ok (.iconst 1, 1) := by decide +kernel
theorem dl402 : decode code 402 = .ok (.iadd, 1) := by decide +kernel
theorem dl403 : decode code 403 = .ok (.iaload, 1) := by decide +kernel
theorem dl404 : decode code 404 = .ok (.aload_n 0, 1) := by decide +kernel
theorem dl405 : decode code 405 = .ok (.iload_n 3, 1) := by decide +kernel
theorem dl406 : decode code 406 = .ok (.iconst 2, 1) := by decide +kernel
theorem dl407 : decode code 407 = .ok (.iadd, 1) := by decide +kernel
theorem dl408 : decode code 408 = .ok (.iaload, 1) := by decide +kernel
theorem dl409 : decode code 409 = .ok (.invokevirtual 40, 3) := by decide +kernel
theorem dl412 : decode code 412 = .ok (.aload_n 2, 1) := by decide +kernel
theorem dl413 : decode code 413 = .ok (.aload_n 0, 1) := by decide +kernel
theorem dl414 : decode code 414 = .ok (.iload_n 3, 1) := by decide +kernel
theorem dl415 : decode code 415 = .ok (.iconst 1, 1) := by decide +kernel
theorem dl416 : decode code 416 = .ok (.iadd, 1) := by decide +kernel
theorem dl417 : decode code 417 = .ok (.iaload, 1) := by decide +kernel
theorem dl418 : decode code 418 = .ok (.aload_n 0, 1) := by decide +kernel
theorem dl419 : decode code 419 = .ok (.iload_n 3, 1) := by decide +kernel
theorem dl420 : decode code 420 = .ok (.iconst 2, 1) := by decide +kernel
theorem dl421 : decode code 421 = .ok (.iadd, 1) := by decide +kernel
theorem dl422 : decode code 422 = .ok (.iaload, 1) := by decide +kernel
theorem dl423 : decode code 423 = .ok (.invokevirtual 43, 3) := by decide +kernel
theorem dl426 : decode code 426 = .ok (.if_icmp .eq 1062, 3) := by decide +kernel
theorem dl429 : decode code 429 = .ok (.iconst 0, 1) := by decide +kernel
theorem dl430 : decode code 430 = .ok (.ireturn, 1) := by decide +kernel
theorem dl431 : decode code 431 = .ok (.aload_n 1, 1) := by decide +kernel
theorem dl432 : decode code 432 = .ok (.aload_n 0, 1) := by decide +kernel
theorem dl433 : decode code 433 = .ok (.iload_n 3, 1) := by decide +kernel
theorem dl434 : decode code 434 = .ok (.iconst 1, 1) := by decide +kernel
theorem dl435 : decode code 435 = .ok (.iadd, 1) := by decide +kernel
theorem dl436 : decode code 436 = .ok (.iaload, 1) := by decide +kernel
theorem dl437 : decode code 437 = .ok (.aload_n 0, 1) := by decide +kernel
theorem dl438 : decode code 438 = .ok (.iload_n 3, 1) := by decide +kernel
theorem dl439 : decode code 439 = .ok (.iconst 2, 1) := by decide +kernel
theorem dl440 : decode code 440 = .ok (.iadd, 1) := by decide +kernel
theorem dl441 : decode code 441 = .ok (.iaload, 1) := by decide +kernel
theorem dl442 : decode code 442 = .ok (.invokevirtual 44, 3) := by decide +kernel
theorem dl445 : decode code 445 = .ok (.aload_n 2, 1) := by decide +kernel
theorem dl446 : decode code 446 = .ok (.aload_n 0, 1) := by decide +kernel
theorem dl447 : decode code 447 = .ok (.iload_n 3, 1) := by decide +kernel
theorem dl448 : decode code 448 = .ok (.iconst 1, 1) := by decide +kernel
theorem dl449 : decode code 449 = .ok (.iadd, 1) := by decide +kernel
theorem dl450 : decode code 450 = .ok (.iaload, 1) := by decide +kernel
theorem dl451 : decode code 451 = .ok (.aload_n 0, 1) := by decide +kernel
theorem dl452 : decode code 452 = .ok (.iload_n 3, 1) := by decide +kernel
theorem dl453 : decode code 453 = .ok (.iconst 2, 1) := by decide +kernel
theorem dl454 : decode code 454 = .ok (.iadd, 1) := by decide +kernel
theorem dl455 : decode code 455 = .ok (.iaload, 1) := by decide +kernel
theorem dl456 : decode code 456 = .ok (.invokevirtual 47, 3) := by decide +kernel
theorem dl459 : decode code 459 = .ok (.if_icmp .eq 1029, 3) := by decide +kernel
theorem dl462 : decode code 462 = .ok (.iconst 0, 1) := by decide +kernel
theorem dl463 : decode code 463 = .ok (.ireturn, 1) := by decide +kernel
theorem dl464 : decode code 464 = .ok (.aload_n 1, 1) := by decide +kernel
theorem dl465 : decode code 465 = .ok (.aload_n 0, 1) := by decide +kernel
theorem dl466 : decode code 466 = .ok (.iload_n 3, 1) := by decide +kernel
theorem dl467 : decode code 467 = .ok (.iconst 1, 1) := by decide +kernel
theorem dl468 : decode code 468 = .ok (.iadd, 1) := by decide +kernel
theorem dl469 : decode code 469 = .ok (.iaload, 1) := by decide +kernel
theorem dl470 : decode code 470 = .ok (.invokevirtual 48, 3) := by decide +kernel
theorem dl473 : decode code 473 = .ok (.aload_n 2, 1) := by decide +kernel
theorem dl474 : decode code 474 = .ok (.aload_n 0, 1) := by decide +kernel
theorem dl475 : decode code 475 = .ok (.iload_n 3, 1) := by decide +kernel
theorem dl476 : decode code 476 = .ok (.iconst 1, 1) := by decide +kernel
theorem dl477 : decode code 477 = .ok (.iadd, 1) := by decide +kernel
theorem dl478 : decode code 478 = .ok (.iaload, 1) := by decide +kernel
theorem dl479 : decode code 479 = .ok (.invokevirtual 51, 3) := by decide +kernel
theorem dl482 : decode code 482 = .ok (.if_icmp .eq 1006, 3) := by decide +kernel
theorem dl485 : decode code 485 = .ok (.iconst 0, 1) := by decide +kernel
theorem dl486 : decode code 486 = .ok (.ireturn, 1) := by decide +kernel
theorem dl487 : decode code 487 = .ok (.aload_n 1, 1) := by decide +kernel
theorem dl488 : decode code 488 = .ok (.aload_n 0, 1) := by decide +kernel
theorem dl489 : decode code 489 = .ok (.iload_n 3, 1) := by decide +kernel
theorem dl490 : decode code 490 = .ok (.iconst 1, 1) := by decide +kernel
theorem dl491 : decode code 491 = .ok (.iadd, 1) := by decide +kernel
theorem dl492 : decode code 492 = .ok (.iaload, 1) := by decide +kernel
theorem dl493 : decode code 493 = .ok (.invokevirtual 52, 3) := by decide +kernel
theorem dl496 : decode code 496 = .ok (.aload_n 2, 1) := by decide +kernel
theorem dl497 : decode code 497 = .ok (.aload_n 0, 1) := by decide +kernel
theorem dl498 : decode code 498 = .ok (.iload_n 3, 1) := by decide +kernel
theorem dl499 : decode code 499 = .ok (.iconst 1, 1) := by decide +kernel
theorem dl500 : decode code 500 = .ok (.iadd, 1) := by decide +kernel
theorem dl501 : decode code 501 = .ok (.iaload, 1) := by decide +kernel
theorem dl502 : decode code 502 = .ok (.invokevirtual 55, 3) := by decide +kernel
theorem dl505 : decode code 505 = .ok (.if_icmp .eq 983, 3) := by decide +kernel
theorem dl508 : decode code 508 = .ok (.iconst 0, 1) := by decide +kernel
theorem dl509 : decode code 509 = .ok (.ireturn, 1) := by decide +kernel
theorem dl510 : decode code 510 = .ok (.aload_n 1, 1) := by decide +kernel
theorem dl511 : decode code 511 = .ok (.aload_n 0, 1) := by decide +kernel
theorem dl512 : decode code 512 = .ok (.iload_n 3, 1) := by decide +kernel
theorem dl513 : decode code 513 = .ok (.iconst 1, 1) := by decide +kernel
theorem dl514 : decode code 514 = .ok (.iadd, 1) := by decide +kernel
theorem dl515 : decode code 515 = .ok (.iaload, 1) := by decide +kernel
theorem dl516 : decode code 516 = .ok (.aload_n 0, 1) := by decide +kernel
theorem dl517 : decode code 517 = .ok (.iload_n 3, 1) := by decide +kernel
theorem dl518 : decode code 518 = .ok (.iconst 2, 1) := by decide +kernel
theorem dl519 : decode code 519 = .ok (.iadd, 1) := by decide +kernel
theorem dl520 : decode code 520 = .ok (.iaload, 1) := by decide +kernel
theorem dl521 : decode code 521 = .ok (.invokevirtual 56, 3) := by decide +kernel
theorem dl524 : decode code 524 = .ok (.aload_n 2, 1) := by decide +kernel
theorem dl525 : decode code 525 = .ok (.aload_n 0, 1) := by decide +kernel
theorem dl526 : decode code 526 = .ok (.iload_n 3, 1) := by decide +kernel
theorem dl527 : decode code 527 = .ok (.iconst 1, 1) := by decide +kernel
theorem dl528 : decode code 528 = .ok (.iadd, 1) := by decide +kernel
theorem dl529 : decode code 529 = .ok (.iaload, 1) := by decide +kernel
theorem dl530 : decode code 530 = .ok (.aload_n 0, 1) := by decide +kernel
theorem dl531 : decode code 531 = .ok (.iload_n 3, 1) := by decide +kernel
theorem dl532 : decode code 532 = .ok (.iconst 2, 1) := by decide +kernel
theorem dl533 : decode code 533 = .ok (.iadd, 1) := by decide +kernel
theorem dl534 : decode code 534 = .ok (.iaload, 1) := by decide +kernel
theorem dl535 : decode code 535 = .ok (.invokevirtual 59, 3) := by decide +kernel
theorem dl538 : decode code 538 = .ok (.if_icmp .eq 950, 3) := by decide +kernel
theorem dl541 : decode code 541 = .ok (.iconst 0, 1) := by decide +kernel
theorem dl542 : decode code 542 = .ok (.ireturn, 1) := by decide +kernel
theorem dl543 : decode code 543 = .ok (.aload_n 1, 1) := by decide +kernel
theorem dl544 : decode code 544 = .ok (.aload_n 0, 1) := by decide +kernel
theorem dl545 : decode code 545 = .ok (.iload_n 3, 1) := by decide +kernel
theorem dl546 : decode code 546 = .ok (.iconst 1, 1) := by decide +kernel
theorem dl547 : decode code 547 = .ok (.iadd, 1) := by decide +kernel
theorem dl548 : decode code 548 = .ok (.iaload, 1) := by decide +kernel
theorem dl549 : decode code 549 = .ok (.invokevirtual 60, 3) := by decide +kernel
theorem dl552 : decode code 552 = .ok (.aload_n 2, 1) := by decide +kernel
theorem dl553 : decode code 553 = .ok (.aload_n 0, 1) := by decide +kernel
theorem dl554 : decode code 554 = .ok (.iload_n 3, 1) := by decide +kernel
theorem dl555 : decode code 555 = .ok (.iconst 1, 1) := by decide +kernel
theorem dl556 : decode code 556 = .ok (.iadd, 1) := by decide +kernel
theorem dl557 : decode code 557 = .ok (.iaload, 1) := by decide +kernel
theorem dl558 : decode code 558 = .ok (.invokevirtual 63, 3) := by decide +kernel
theorem dl561 : decode code 561 = .ok (.if_icmp .eq 927, 3) := by decide +kernel
theorem dl564 : decode code 564 = .ok (.iconst 0, 1) := by decide +kernel
theorem dl565 : decode code 565 = .ok (.ireturn, 1) := by decide +kernel
theorem dl566 : decode code 566 = .ok (.aload_n 1, 1) := by decide +kernel
theorem dl567 : decode code 567 = .ok (.aload_n 0, 1) := by decide +kernel
theorem dl568 : decode code 568 = .ok (.iload_n 3, 1) := by decide +kernel
theorem dl569 : decode code 569 = .ok (.iconst 1, 1) := by decide +kernel
theorem dl570 : decode code 570 = .ok (.iadd, 1) := by decide +kernel
theorem dl571 : decode code 571 = .ok (.iaload, 1) := by decide +kernel
theorem dl572 : decode code 572 = .ok (.aload_n 0, 1) := by decide +kernel
theorem dl573 : decode code 573 = .ok (.iload_n 3, 1) := by decide +kernel
theorem dl574 : decode code 574 = .ok (.iconst 2, 1) := by decide +kernel
theorem dl575 : decode code 575 = .ok (.iadd, 1) := by decide +kernel
theorem dl576 : decode code 576 = .ok (.iaload, 1) := by decide +kernel
theorem dl577 : decode code 577 = .ok (.invokevirtual 64, 3) := by decide +kernel
theorem dl580 : decode code 580 = .ok (.aload_n 2, 1) := by decide +kernel
theorem dl581 : decode code 581 = .ok (.aload_n 0, 1) := by decide +kernel
theorem dl582 : decode code 582 = .ok (.iload_n 3, 1) := by decide +kernel
theorem dl583 : decode code 583 = .ok (.iconst 1, 1) := by decide +kernel
theorem dl584 : decode code 584 = .ok (.iadd, 1) := by decide +kernel
theorem dl585 : decode code 585 = .ok (.iaload, 1) := by decide +kernel
theorem dl586 : decode code 586 = .ok (.aload_n 0, 1) := by decide +kernel
theorem dl587 : decode code 587 = .ok (.iload_n 3, 1) := by decide +kernel
theorem dl588 : decode code 588 = .ok (.iconst 2, 1) := by decide +kernel
theorem dl589 : decode code 589 = .ok (.iadd, 1) := by decide +kernel
theorem dl590 : decode code 590 = .ok (.iaload, 1) := by decide +kernel
theorem dl591 : decode code 591 = .ok (.invokevirtual 67, 3) := by decide +kernel
theorem dl594 : decode code 594 = .ok (.if_icmp .eq 894, 3) := by decide +kernel
theorem dl597 : decode code 597 = .ok (.iconst 0, 1) := by decide +kernel
theorem dl598 : decode code 598 = .ok (.ireturn, 1) := by decide +kernel
theorem dl599 : decode code 599 = .ok (.aload_n 1, 1) := by decide +kernel
theorem dl600 : decode code 600 = .ok (.aload_n 0, 1) := by decide +kernel
theorem dl601 : decode code 601 = .ok (.iload_n 3, 1) := by decide +kernel
theorem dl602 : decode code 602 = .ok (.iconst 1, 1) := by decide +kernel
theorem dl603 : decode code 603 = .ok (.iadd, 1) := by decide +kernel
theorem dl604 : decode code 604 = .ok (.iaload, 1) := by decide +kernel
theorem dl605 : decode code 605 = .ok (.aload_n 0, 1) := by decide +kernel
theorem dl606 : decode code 606 = .ok (.iload_n 3, 1) := by decide +kernel
theorem dl607 : decode code 607 = .ok (.iconst 2, 1) := by decide +kernel
theorem dl608 : decode code 608 = .ok (.iadd, 1) := by decide +kernel
theorem dl609 : decode code 609 = .ok (.iaload, 1) := by decide +kernel
theorem dl610 : decode code 610 = .ok (.invokevirtual 68, 3) := by decide +kernel
theorem dl613 : decode code 613 = .ok (.aload_n 2, 1) := by decide +kernel
theorem dl614 : decode code 614 = .ok (.aload_n 0, 1) := by decide +kernel
theorem dl615 : decode code 615 = .ok (.iload_n 3, 1) := by decide +kernel
theorem dl616 : decode code 616 = .ok (.iconst 1, 1) := by decide +kernel
theorem dl617 : decode code 617 = .ok (.iadd, 1) := by decide +kernel
theorem dl618 : decode code 618 = .ok (.iaload, 1) := by decide +kernel
theorem dl619 : decode code 619 = .ok (.aload_n 0, 1) := by decide +kernel
theorem dl620 : decode code 620 = .ok (.iload_n 3, 1) := by decide +kernel
theorem dl621 : decode code 621 = .ok (.iconst 2, 1) := by decide +kernel
theorem dl622 : decode code 622 = .ok (.iadd, 1) := by decide +kernel
theorem dl623 : decode code 623 = .ok (.iaload, 1) := by decide +kernel
theorem dl624 : decode code 624 = .ok (.invokevirtual 71, 3) := by decide +kernel
theorem dl627 : decode code 627 = .ok (.if_icmp .eq 861, 3) := by decide +kernel
theorem dl630 : decode code 630 = .ok (.iconst 0, 1) := by decide +kernel
theorem dl631 : decode code 631 = .ok (.ireturn, 1) := by decide +kernel
theorem dl632 : decode code 632 = .ok (.aload_n 1, 1) := by decide +kernel
theorem dl633 : decode code 633 = .ok (.aload_n 0, 1) := by decide +kernel
theorem dl634 : decode code 634 = .ok (.iload_n 3, 1) := by decide +kernel
theorem dl635 : decode code 635 = .ok (.iconst 1, 1) := by decide +kernel
theorem dl636 : decode code 636 = .ok (.iadd, 1) := by decide +kernel
theorem dl637 : decode code 637 = .ok (.iaload, 1) := by decide +kernel
theorem dl638 : decode code 638 = .ok (.aload_n 0, 1) := by decide +kernel
theorem dl639 : decode code 639 = .ok (.iload_n 3, 1) := by decide +kernel
theorem dl640 : decode code 640 = .ok (.iconst 2, 1) := by decide +kernel
theorem dl641 : decode code 641 = .ok (.iadd, 1) := by decide +kernel
theorem dl642 : decode code 642 = .ok (.iaload, 1) := by decide +kernel
theorem dl643 : decode code 643 = .ok (.invokevirtual 72, 3) := by decide +kernel
theorem dl646 : decode code 646 = .ok (.aload_n 2, 1) := by decide +kernel
theorem dl647 : decode code 647 = .ok (.aload_n 0, 1) := by decide +kernel
theorem dl648 : decode code 648 = .ok (.iload_n 3, 1) := by decide +kernel
theorem dl649 : decode code 649 = .ok (.iconst 1, 1) := by decide +kernel
theorem dl650 : decode code 650 = .ok (.iadd, 1) := by decide +kernel
theorem dl651 : decode code 651 = .ok (.iaload, 1) := by decide +kernel
theorem dl652 : decode code 652 = .ok (.aload_n 0, 1) := by decide +kernel
theorem dl653 : decode code 653 = .ok (.iload_n 3, 1) := by decide +kernel
theorem dl654 : decode code 654 = .ok (.iconst 2, 1) := by decide +kernel
theorem dl655 : decode code 655 = .ok (.iadd, 1) := by decide +kernel
theorem dl656 : decode code 656 = .ok (.iaload, 1) := by decide +kernel
theorem dl657 : decode code 657 = .ok (.invokevirtual 75, 3) := by decide +kernel
theorem dl660 : decode code 660 = .ok (.if_icmp .eq 828, 3) := by decide +kernel
theorem dl663 : decode code 663 = .ok (.iconst 0, 1) := by decide +kernel
theorem dl664 : decode code 664 = .ok (.ireturn, 1) := by decide +kernel
theorem dl665 : decode code 665 = .ok (.aload_n 1, 1) := by decide +kernel
theorem dl666 : decode code 666 = .ok (.aload_n 0, 1) := by decide +kernel
theorem dl667 : decode code 667 = .ok (.iload_n 3, 1) := by decide +kernel
theorem dl668 : decode code 668 = .ok (.iconst 1, 1) := by decide +kernel
theorem dl669 : decode code 669 = .ok (.iadd, 1) := by decide +kernel
theorem dl670 : decode code 670 = .ok (.iaload, 1) := by decide +kernel
theorem dl671 : decode code 671 = .ok (.aload_n 0, 1) := by decide +kernel
theorem dl672 : decode code 672 = .ok (.iload_n 3, 1) := by decide +kernel
theorem dl673 : decode code 673 = .ok (.iconst 2, 1) := by decide +kernel
theorem dl674 : decode code 674 = .ok (.iadd, 1) := by decide +kernel
theorem dl675 : decode code 675 = .ok (.iaload, 1) := by decide +kernel
theorem dl676 : decode code 676 = .ok (.aload_n 0, 1) := by decide +kernel
theorem dl677 : decode code 677 = .ok (.iload_n 3, 1) := by decide +kernel
theorem dl678 : decode code 678 = .ok (.iconst 3, 1) := by decide +kernel
theorem dl679 : decode code 679 = .ok (.iadd, 1) := by decide +kernel
theorem dl680 : decode code 680 = .ok (.iaload, 1) := by decide +kernel
theorem dl681 : decode code 681 = .ok (.aload_n 0, 1) := by decide +kernel
theorem dl682 : decode code 682 = .ok (.iload_n 3, 1) := by decide +kernel
theorem dl683 : decode code 683 = .ok (.iconst 4, 1) := by decide +kernel
theorem dl684 : decode code 684 = .ok (.iadd, 1) := by decide +kernel
theorem dl685 : decode code 685 = .ok (.iaload, 1) := by decide +kernel
theorem dl686 : decode code 686 = .ok (.invokevirtual 76, 3) := by decide +kernel
theorem dl689 : decode code 689 = .ok (.aload_n 2, 1) := by decide +kernel
theorem dl690 : decode code 690 = .ok (.aload_n 0, 1) := by decide +kernel
theorem dl691 : decode code 691 = .ok (.iload_n 3, 1) := by decide +kernel
theorem dl692 : decode code 692 = .ok (.iconst 1, 1) := by decide +kernel
theorem dl693 : decode code 693 = .ok (.iadd, 1) := by decide +kernel
theorem dl694 : decode code 694 = .ok (.iaload, 1) := by decide +kernel
theorem dl695 : decode code 695 = .ok (.aload_n 0, 1) := by decide +kernel
theorem dl696 : decode code 696 = .ok (.iload_n 3, 1) := by decide +kernel
theorem dl697 : decode code 697 = .ok (.iconst 2, 1) := by decide +kernel
theorem dl698 : decode code 698 = .ok (.iadd, 1) := by decide +kernel
theorem dl699 : decode code 699 = .ok (.iaload, 1) := by decide +kernel
theorem dl700 : decode code 700 = .ok (.aload_n 0, 1) := by decide +kernel
theorem dl701 : decode code 701 = .ok (.iload_n 3, 1) := by decide +kernel
theorem dl702 : decode code 702 = .ok (.iconst 3, 1) := by decide +kernel
theorem dl703 : decode code 703 = .ok (.iadd, 1) := by decide +kernel
theorem dl704 : decode code 704 = .ok (.iaload, 1) := by decide +kernel
theorem dl705 : decode code 705 = .ok (.aload_n 0, 1) := by decide +kernel
theorem dl706 : decode code 706 = .ok (.iload_n 3, 1) := by decide +kernel
theorem dl707 : decode code 707 = .ok (.iconst 4, 1) := by decide +kernel
theorem dl708 : decode code 708 = .ok (.iadd, 1) := by decide +kernel
theorem dl709 : decode code 709 = .ok (.iaload, 1) := by decide +kernel
theorem dl710 : decode code 710 = .ok (.invokevirtual 80, 3) := by decide +kernel
theorem dl713 : decode code 713 = .ok (.if_icmp .eq 775, 3) := by decide +kernel
theorem dl716 : decode code 716 = .ok (.iconst 0, 1) := by decide +kernel
theorem dl717 : decode code 717 = .ok (.ireturn, 1) := by decide +kernel
theorem dl718 : decode code 718 = .ok (.aload_n 1, 1) := by decide +kernel
theorem dl719 : decode code 719 = .ok (.aload_n 0, 1) := by decide +kernel
theorem dl720 : decode code 720 = .ok (.iload_n 3, 1) := by decide +kernel
theorem dl721 : decode code 721 = .ok (.iconst 1, 1) := by decide +kernel
theorem dl722 : decode code 722 = .ok (.iadd, 1) := by decide +kernel
theorem dl723 : decode code 723 = .ok (.iaload, 1) := by decide +kernel
theorem dl724 : decode code 724 = .ok (.aload_n 0, 1) := by decide +kernel
theorem dl725 : decode code 725 = .ok (.iload_n 3, 1) := by decide +kernel
theorem dl726 : decode code 726 = .ok (.iconst 2, 1) := by decide +kernel
theorem dl727 : decode code 727 = .ok (.iadd, 1) := by decide +kernel
theorem dl728 : decode code 728 = .ok (.iaload, 1) := by decide +kernel
theorem dl729 : decode code 729 = .ok (.invokevirtual 81, 3) := by decide +kernel
theorem dl732 : decode code 732 = .ok (.aload_n 2, 1) := by decide +kernel
theorem dl733 : decode code 733 = .ok (.aload_n 0, 1) := by decide +kernel
theorem dl734 : decode code 734 = .ok (.iload_n 3, 1) := by decide +kernel
theorem dl735 : decode code 735 = .ok (.iconst 1, 1) := by decide +kernel
theorem dl736 : decode code 736 = .ok (.iadd, 1) := by decide +kernel
theorem dl737 : decode code 737 = .ok (.iaload, 1) := by decide +kernel
theorem dl738 : decode code 738 = .ok (.aload_n 0, 1) := by decide +kernel
theorem dl739 : decode code 739 = .ok (.iload_n 3, 1) := by decide +kernel
theorem dl740 : decode code 740 = .ok (.iconst 2, 1) := by decide +kernel
theorem dl741 : decode code 741 = .ok (.iadd, 1) := by decide +kernel
theorem dl742 : decode code 742 = .ok (.iaload, 1) := by decide +kernel
theorem dl743 : decode code 743 = .ok (.invokevirtual 84, 3) := by decide +kernel
theorem dl746 : decode code 746 = .ok (.if_icmp .eq 742, 3) := by decide +kernel
theorem dl749 : decode code 749 = .ok (.iconst 0, 1) := by decide +kernel
theorem dl750 : decode code 750 = .ok (.ireturn, 1) := by decide +kernel
theorem dl751 : decode code 751 = .ok (.aload_n 1, 1) := by decide +kernel
theorem dl752 : decode code 752 = .ok (.aload_n 0, 1) := by decide +kernel
theorem dl753 : decode code 753 = .ok (.iload_n 3, 1) := by decide +kernel
theorem dl754 : decode code 754 = .ok (.iconst 1, 1) := by decide +kernel
theorem dl755 : decode code 755 = .ok (.iadd, 1) := by decide +kernel
theorem dl756 : decode code 756 = .ok (.iaload, 1) := by decide +kernel
theorem dl757 : decode code 757 = .ok (.aload_n 0, 1) := by decide +kernel
theorem dl758 : decode code 758 = .ok (.iload_n 3, 1) := by decide +kernel
theorem dl759 : decode code 759 = .ok (.iconst 2, 1) := by decide +kernel
theorem dl760 : decode code 760 = .ok (.iadd, 1) := by decide +kernel
theorem dl761 : decode code 761 = .ok (.iaload, 1) := by decide +kernel
theorem dl762 : decode code 762 = .ok (.invokevirtual 85, 3) := by decide +kernel
theorem dl765 : decode code 765 = .ok (.aload_n 2, 1) := by decide +kernel
theorem dl766 : decode code 766 = .ok (.aload_n 0, 1) := by decide +kernel
theorem dl767 : decode code 767 = .ok (.iload_n 3, 1) := by decide +kernel
theorem dl768 : decode code 768 = .ok (.iconst 1, 1) := by decide +kernel
theorem dl769 : decode code 769 = .ok (.iadd, 1) := by decide +kernel
theorem dl770 : decode code 770 = .ok (.iaload, 1) := by decide +kernel
theorem dl771 : decode code 771 = .ok (.aload_n 0, 1) := by decide +kernel
theorem dl772 : decode code 772 = .ok (.iload_n 3, 1) := by decide +kernel
theorem dl773 : decode code 773 = .ok (.iconst 2, 1) := by decide +kernel
theorem dl774 : decode code 774 = .ok (.iadd, 1) := by decide +kernel
theorem dl775 : decode code 775 = .ok (.iaload, 1) := by decide +kernel
theorem dl776 : decode code 776 = .ok (.invokevirtual 88, 3) := by decide +kernel
theorem dl779 : decode code 779 = .ok (.if_icmp .eq 709, 3) := by decide +kernel
theorem dl782 : decode code 782 = .ok (.iconst 0, 1) := by decide +kernel
theorem dl783 : decode code 783 = .ok (.ireturn, 1) := by decide +kernel
theorem dl784 : decode code 784 = .ok (.aload_n 1, 1) := by decide +kernel
theorem dl785 : decode code 785 = .ok (.aload_n 0, 1) := by decide +kernel
theorem dl786 : decode code 786 = .ok (.iload_n 3, 1) := by decide +kernel
theorem dl787 : decode code 787 = .ok (.iconst 1, 1) := by decide +kernel
theorem dl788 : decode code 788 = .ok (.iadd, 1) := by decide +kernel
theorem dl789 : decode code 789 = .ok (.iaload, 1) := by decide +kernel
theorem dl790 : decode code 790 = .ok (.invokevirtual 89, 3) := by decide +kernel
theorem dl793 : decode code 793 = .ok (.aload_n 2, 1) := by decide +kernel
theorem dl794 : decode code 794 = .ok (.aload_n 0, 1) := by decide +kernel
theorem dl795 : decode code 795 = .ok (.iload_n 3, 1) := by decide +kernel
theorem dl796 : decode code 796 = .ok (.iconst 1, 1) := by decide +kernel
theorem dl797 : decode code 797 = .ok (.iadd, 1) := by decide +kernel
theorem dl798 : decode code 798 = .ok (.iaload, 1) := by decide +kernel
theorem dl799 : decode code 799 = .ok (.invokevirtual 92, 3) := by decide +kernel
theorem dl802 : decode code 802 = .ok (.if_icmp .eq 686, 3) := by decide +kernel
theorem dl805 : decode code 805 = .ok (.iconst 0, 1) := by decide +kernel
theorem dl806 : decode code 806 = .ok (.ireturn, 1) := by decide +kernel
theorem dl807 : decode code 807 = .ok (.aload_n 1, 1) := by decide +kernel
theorem dl808 : decode code 808 = .ok (.aload_n 0, 1) := by decide +kernel
theorem dl809 : decode code 809 = .ok (.iload_n 3, 1) := by decide +kernel
theorem dl810 : decode code 810 = .ok (.iconst 1, 1) := by decide +kernel
theorem dl811 : decode code 811 = .ok (.iadd, 1) := by decide +kernel
theorem dl812 : decode code 812 = .ok (.iaload, 1) := by decide +kernel
theorem dl813 : decode code 813 = .ok (.aload_n 0, 1) := by decide +kernel
theorem dl814 : decode code 814 = .ok (.iload_n 3, 1) := by decide +kernel
theorem dl815 : decode code 815 = .ok (.iconst 2, 1) := by decide +kernel
theorem dl816 : decode code 816 = .ok (.iadd, 1) := by decide +kernel
theorem dl817 : decode code 817 = .ok (.iaload, 1) := by decide +kernel
theorem dl818 : decode code 818 = .ok (.invokevirtual 93, 3) := by decide +kernel
theorem dl821 : decode code 821 = .ok (.aload_n 2, 1) := by decide +kernel
theorem dl822 : decode code 822 = .ok (.aload_n 0, 1) := by decide +kernel
theorem dl823 : decode code 823 = .ok (.iload_n 3, 1) := by decide +kernel
theorem dl824 : decode code 824 = .ok (.iconst 1, 1) := by decide +kernel
theorem dl825 : decode code 825 = .ok (.iadd, 1) := by decide +kernel
theorem dl826 : decode code 826 = .ok (.iaload, 1) := by decide +kernel
theorem dl827 : decode code 827 = .ok (.aload_n 0, 1) := by decide +kernel
theorem dl828 : decode code 828 = .ok (.iload_n 3, 1) := by decide +kernel
theorem dl829 : decode code 829 = .ok (.iconst 2, 1) := by decide +kernel
theorem dl830 : decode code 830 = .ok (.iadd, 1) := by decide +kernel
theorem dl831 : decode code 831 = .ok (.iaload, 1) := by decide +kernel
theorem dl832 : decode code 832 = .ok (.invokevirtual 96, 3) := by decide +kernel
theorem dl835 : decode code 835 = .ok (.if_icmp .eq 653, 3) := by decide +kernel
theorem dl838 : decode code 838 = .ok (.iconst 0, 1) := by decide +kernel
theorem dl839 : decode code 839 = .ok (.ireturn, 1) := by decide +kernel
theorem dl840 : decode code 840 = .ok (.aload_n 1, 1) := by decide +kernel
theorem dl841 : decode code 841 = .ok (.aload_n 0, 1) := by decide +kernel
theorem dl842 : decode code 842 = .ok (.iload_n 3, 1) := by decide +kernel
theorem dl843 : decode code 843 = .ok (.iconst 1, 1) := by decide +kernel
theorem dl844 : decode code 844 = .ok (.iadd, 1) := by decide +kernel
theorem dl845 : decode code 845 = .ok (.iaload, 1) := by decide +kernel
theorem dl846 : decode code 846 = .ok (.invokevirtual 97, 3) := by decide +kernel
theorem dl849 : decode code 849 = .ok (.aload_n 2, 1) := by decide +kernel
theorem dl850 : decode code 850 = .ok (.aload_n 0, 1) := by decide +kernel
theorem dl851 : decode code 851 = .ok (.iload_n 3, 1) := by decide +kernel
theorem dl852 : decode code 852 = .ok (.iconst 1, 1) := by decide +kernel
theorem dl853 : decode code 853 = .ok (.iadd, 1) := by decide +kernel
theorem dl854 : decode code 854 = .ok (.iaload, 1) := by decide +kernel
theorem dl855 : decode code 855 = .ok (.invokevirtual 100, 3) := by decide +kernel
theorem dl858 : decode code 858 = .ok (.if_icmp .eq 630, 3) := by decide +kernel
theorem dl861 : decode code 861 = .ok (.iconst 0, 1) := by decide +kernel
theorem dl862 : decode code 862 = .ok (.ireturn, 1) := by decide +kernel
theorem dl863 : decode code 863 = .ok (.aload_n 1, 1) := by decide +kernel
theorem dl864 : decode code 864 = .ok (.aload_n 0, 1) := by decide +kernel
theorem dl865 : decode code 865 = .ok (.iload_n 3, 1) := by decide +kernel
theorem dl866 : decode code 866 = .ok (.iconst 1, 1) := by decide +kernel
theorem dl867 : decode code 867 = .ok (.iadd, 1) := by decide +kernel
theorem dl868 : decode code 868 = .ok (.iaload, 1) := by decide +kernel
theorem dl869 : decode code 869 = .ok (.aload_n 0, 1) := by decide +kernel
theorem dl870 : decode code 870 = .ok (.iload_n 3, 1) := by decide +kernel
theorem dl871 : decode code 871 = .ok (.iconst 2, 1) := by decide +kernel
theorem dl872 : decode code 872 = .ok (.iadd, 1) := by decide +kernel
theorem dl873 : decode code 873 = .ok (.iaload, 1) := by decide +kernel
theorem dl874 : decode code 874 = .ok (.invokevirtual 101, 3) := by decide +kernel
theorem dl877 : decode code 877 = .ok (.aload_n 2, 1) := by decide +kernel
theorem dl878 : decode code 878 = .ok (.aload_n 0, 1) := by decide +kernel
theorem dl879 : decode code 879 = .ok (.iload_n 3, 1) := by decide +kernel
theorem dl880 : decode code 880 = .ok (.iconst 1, 1) := by decide +kernel
theorem dl881 : decode code 881 = .ok (.iadd, 1) := by decide +kernel
theorem dl882 : decode code 882 = .ok (.iaload, 1) := by decide +kernel
theorem dl883 : decode code 883 = .ok (.aload_n 0, 1) := by decide +kernel
theorem dl884 : decode code 884 = .ok (.iload_n 3, 1) := by decide +kernel
theorem dl885 : decode code 885 = .ok (.iconst 2, 1) := by decide +kernel
theorem dl886 : decode code 886 = .ok (.iadd, 1) := by decide +kernel
theorem dl887 : decode code 887 = .ok (.iaload, 1) := by decide +kernel
theorem dl888 : decode code 888 = .ok (.invokevirtual 104, 3) := by decide +kernel
theorem dl891 : decode code 891 = .ok (.if_icmp .eq 597, 3) := by decide +kernel
theorem dl894 : decode code 894 = .ok (.iconst 0, 1) := by decide +kernel
theorem dl895 : decode code 895 = .ok (.ireturn, 1) := by decide +kernel
theorem dl896 : decode code 896 = .ok (.aload_n 1, 1) := by decide +kernel
theorem dl897 : decode code 897 = .ok (.aload_n 0, 1) := by decide +kernel
theorem dl898 : decode code 898 = .ok (.iload_n 3, 1) := by decide +kernel
theorem dl899 : decode code 899 = .ok (.iconst 1, 1) := by decide +kernel
theorem dl900 : decode code 900 = .ok (.iadd, 1) := by decide +kernel
theorem dl901 : decode code 901 = .ok (.iaload, 1) := by decide +kernel
theorem dl902 : decode code 902 = .ok (.aload_n 0, 1) := by decide +kernel
theorem dl903 : decode code 903 = .ok (.iload_n 3, 1) := by decide +kernel
theorem dl904 : decode code 904 = .ok (.iconst 2, 1) := by decide +kernel
theorem dl905 : decode code 905 = .ok (.iadd, 1) := by decide +kernel
theorem dl906 : decode code 906 = .ok (.iaload, 1) := by decide +kernel
theorem dl907 : decode code 907 = .ok (.aload_n 0, 1) := by decide +kernel
theorem dl908 : decode code 908 = .ok (.iload_n 3, 1) := by decide +kernel
theorem dl909 : decode code 909 = .ok (.iconst 3, 1) := by decide +kernel
theorem dl910 : decode code 910 = .ok (.iadd, 1) := by decide +kernel
theorem dl911 : decode code 911 = .ok (.iaload, 1) := by decide +kernel
theorem dl912 : decode code 912 = .ok (.invokevirtual 105, 3) := by decide +kernel
theorem dl915 : decode code 915 = .ok (.aload_n 2, 1) := by decide +kernel
theorem dl916 : decode code 916 = .ok (.aload_n 0, 1) := by decide +kernel
theorem dl917 : decode code 917 = .ok (.iload_n 3, 1) := by decide +kernel
theorem dl918 : decode code 918 = .ok (.iconst 1, 1) := by decide +kernel
theorem dl919 : decode code 919 = .ok (.iadd, 1) := by decide +kernel
theorem dl920 : decode code 920 = .ok (.iaload, 1) := by decide +kernel
theorem dl921 : decode code 921 = .ok (.aload_n 0, 1) := by decide +kernel
theorem dl922 : decode code 922 = .ok (.iload_n 3, 1) := by decide +kernel
theorem dl923 : decode code 923 = .ok (.iconst 2, 1) := by decide +kernel
theorem dl924 : decode code 924 = .ok (.iadd, 1) := by decide +kernel
theorem dl925 : decode code 925 = .ok (.iaload, 1) := by decide +kernel
theorem dl926 : decode code 926 = .ok (.aload_n 0, 1) := by decide +kernel
theorem dl927 : decode code 927 = .ok (.iload_n 3, 1) := by decide +kernel
theorem dl928 : decode code 928 = .ok (.iconst 3, 1) := by decide +kernel
theorem dl929 : decode code 929 = .ok (.iadd, 1) := by decide +kernel
theorem dl930 : decode code 930 = .ok (.iaload, 1) := by decide +kernel
theorem dl931 : decode code 931 = .ok (.invokevirtual 109, 3) := by decide +kernel
theorem dl934 : decode code 934 = .ok (.if_icmp .eq 554, 3) := by decide +kernel
theorem dl937 : decode code 937 = .ok (.iconst 0, 1) := by decide +kernel
theorem dl938 : decode code 938 = .ok (.ireturn, 1) := by decide +kernel
theorem dl939 : decode code 939 = .ok (.aload_n 1, 1) := by decide +kernel
theorem dl940 : decode code 940 = .ok (.aload_n 0, 1) := by decide +kernel
theorem dl941 : decode code 941 = .ok (.iload_n 3, 1) := by decide +kernel
theorem dl942 : decode code 942 = .ok (.iconst 1, 1) := by decide +kernel
theorem dl943 : decode code 943 = .ok (.iadd, 1) := by decide +kernel
theorem dl944 : decode code 944 = .ok (.iaload, 1) := by decide +kernel
theorem dl945 : decode code 945 = .ok (.aload_n 0, 1) := by decide +kernel
theorem dl946 : decode code 946 = .ok (.iload_n 3, 1) := by decide +kernel
theorem dl947 : decode code 947 = .ok (.iconst 2, 1) := by decide +kernel
theorem dl948 : decode code 948 = .ok (.iadd, 1) := by decide +kernel
theorem dl949 : decode code 949 = .ok (.iaload, 1) := by decide +kernel
theorem dl950 : decode code 950 = .ok (.aload_n 0, 1) := by decide +kernel
theorem dl951 : decode code 951 = .ok (.iload_n 3, 1) := by decide +kernel
theorem dl952 : decode code 952 = .ok (.iconst 3, 1) := by decide +kernel
theorem dl953 : decode code 953 = .ok (.iadd, 1) := by decide +kernel
theorem dl954 : decode code 954 = .ok (.iaload, 1) := by decide +kernel
theorem dl955 : decode code 955 = .ok (.invokevirtual 110, 3) := by decide +kernel
theorem dl958 : decode code 958 = .ok (.aload_n 2, 1) := by decide +kernel
theorem dl959 : decode code 959 = .ok (.aload_n 0, 1) := by decide +kernel
theorem dl960 : decode code 960 = .ok (.iload_n 3, 1) := by decide +kernel
theorem dl961 : decode code 961 = .ok (.iconst 1, 1) := by decide +kernel
theorem dl962 : decode code 962 = .ok (.iadd, 1) := by decide +kernel
theorem dl963 : decode code 963 = .ok (.iaload, 1) := by decide +kernel
theorem dl964 : decode code 964 = .ok (.aload_n 0, 1) := by decide +kernel
theorem dl965 : decode code 965 = .ok (.iload_n 3, 1) := by decide +kernel
theorem dl966 : decode code 966 = .ok (.iconst 2, 1) := by decide +kernel
theorem dl967 : decode code 967 = .ok (.iadd, 1) := by decide +kernel
theorem dl968 : decode code 968 = .ok (.iaload, 1) := by decide +kernel
theorem dl969 : decode code 969 = .ok (.aload_n 0, 1) := by decide +kernel
theorem dl970 : decode code 970 = .ok (.iload_n 3, 1) := by decide +kernel
theorem dl971 : decode code 971 = .ok (.iconst 3, 1) := by decide +kernel
theorem dl972 : decode code 972 = .ok (.iadd, 1) := by decide +kernel
theorem dl973 : decode code 973 = .ok (.iaload, 1) := by decide +kernel
theorem dl974 : decode code 974 = .ok (.invokevirtual 113, 3) := by decide +kernel
theorem dl977 : decode code 977 = .ok (.if_icmp .eq 511, 3) := by decide +kernel
theorem dl980 : decode code 980 = .ok (.iconst 0, 1) := by decide +kernel
theorem dl981 : decode code 981 = .ok (.ireturn, 1) := by decide +kernel
theorem dl982 : decode code 982 = .ok (.aload_n 1, 1) := by decide +kernel
theorem dl983 : decode code 983 = .ok (.aload_n 0, 1) := by decide +kernel
theorem dl984 : decode code 984 = .ok (.iload_n 3, 1) := by decide +kernel
theorem dl985 : decode code 985 = .ok (.iconst 1, 1) := by decide +kernel
theorem dl986 : decode code 986 = .ok (.iadd, 1) := by decide +kernel
theorem dl987 : decode code 987 = .ok (.iaload, 1) := by decide +kernel
theorem dl988 : decode code 988 = .ok (.aload_n 0, 1) := by decide +kernel
theorem dl989 : decode code 989 = .ok (.iload_n 3, 1) := by decide +kernel
theorem dl990 : decode code 990 = .ok (.iconst 2, 1) := by decide +kernel
theorem dl991 : decode code 991 = .ok (.iadd, 1) := by decide +kernel
theorem dl992 : decode code 992 = .ok (.iaload, 1) := by decide +kernel
theorem dl993 : decode code 993 = .ok (.aload_n 0, 1) := by decide +kernel
theorem dl994 : decode code 994 = .ok (.iload_n 3, 1) := by decide +kernel
theorem dl995 : decode code 995 = .ok (.iconst 3, 1) := by decide +kernel
theorem dl996 : decode code 996 = .ok (.iadd, 1) := by decide +kernel
theorem dl997 : decode code 997 = .ok (.iaload, 1) := by decide +kernel
theorem dl998 : decode code 998 = .ok (.invokevirtual 114, 3) := by decide +kernel
theorem dl1001 : decode code 1001 = .ok (.aload_n 2, 1) := by decide +kernel
theorem dl1002 : decode code 1002 = .ok (.aload_n 0, 1) := by decide +kernel
theorem dl1003 : decode code 1003 = .ok (.iload_n 3, 1) := by decide +kernel
theorem dl1004 : decode code 1004 = .ok (.iconst 1, 1) := by decide +kernel
theorem dl1005 : decode code 1005 = .ok (.iadd, 1) := by decide +kernel
theorem dl1006 : decode code 1006 = .ok (.iaload, 1) := by decide +kernel
theorem dl1007 : decode code 1007 = .ok (.aload_n 0, 1) := by decide +kernel
theorem dl1008 : decode code 1008 = .ok (.iload_n 3, 1) := by decide +kernel
theorem dl1009 : decode code 1009 = .ok (.iconst 2, 1) := by decide +kernel
theorem dl1010 : decode code 1010 = .ok (.iadd, 1) := by decide +kernel
theorem dl1011 : decode code 1011 = .ok (.iaload, 1) := by decide +kernel
theorem dl1012 : decode code 1012 = .ok (.aload_n 0, 1) := by decide +kernel
theorem dl1013 : decode code 1013 = .ok (.iload_n 3, 1) := by decide +kernel
theorem dl1014 : decode code 1014 = .ok (.iconst 3, 1) := by decide +kernel
theorem dl1015 : decode code 1015 = .ok (.iadd, 1) := by decide +kernel
theorem dl1016 : decode code 1016 = .ok (.iaload, 1) := by decide +kernel
theorem dl1017 : decode code 1017 = .ok (.invokevirtual 118, 3) := by decide +kernel
theorem dl1020 : decode code 1020 = .ok (.lcmp, 1) := by decide +kernel
theorem dl1021 : decode code 1021 = .ok (.ifCond .eq 467, 3) := by decide +kernel
theorem dl1024 : decode code 1024 = .ok (.iconst 0, 1) := by decide +kernel
theorem dl1025 : decode code 1025 = .ok (.ireturn, 1) := by decide +kernel
theorem dl1026 : decode code 1026 = .ok (.aload_n 1, 1) := by decide +kernel
theorem dl1027 : decode code 1027 = .ok (.aload_n 0, 1) := by decide +kernel
theorem dl1028 : decode code 1028 = .ok (.iload_n 3, 1) := by decide +kernel
theorem dl1029 : decode code 1029 = .ok (.iconst 1, 1) := by decide +kernel
theorem dl1030 : decode code 1030 = .ok (.iadd, 1) := by decide +kernel
theorem dl1031 : decode code 1031 = .ok (.iaload, 1) := by decide +kernel
theorem dl1032 : decode code 1032 = .ok (.aload_n 0, 1) := by decide +kernel
theorem dl1033 : decode code 1033 = .ok (.iload_n 3, 1) := by decide +kernel
theorem dl1034 : decode code 1034 = .ok (.iconst 2, 1) := by decide +kernel
theorem dl1035 : decode code 1035 = .ok (.iadd, 1) := by decide +kernel
theorem dl1036 : decode code 1036 = .ok (.iaload, 1) := by decide +kernel
theorem dl1037 : decode code 1037 = .ok (.aload_n 0, 1) := by decide +kernel
theorem dl1038 : decode code 1038 = .ok (.iload_n 3, 1) := by decide +kernel
theorem dl1039 : decode code 1039 = .ok (.iconst 3, 1) := by decide +kernel
theorem dl1040 : decode code 1040 = .ok (.iadd, 1) := by decide +kernel
theorem dl1041 : decode code 1041 = .ok (.iaload, 1) := by decide +kernel
theorem dl1042 : decode code 1042 = .ok (.invokevirtual 119, 3) := by decide +kernel
theorem dl1045 : decode code 1045 = .ok (.aload_n 2, 1) := by decide +kernel
theorem dl1046 : decode code 1046 = .ok (.aload_n 0, 1) := by decide +kernel
theorem dl1047 : decode code 1047 = .ok (.iload_n 3, 1) := by decide +kernel
theorem dl1048 : decode code 1048 = .ok (.iconst 1, 1) := by decide +kernel
theorem dl1049 : decode code 1049 = .ok (.iadd, 1) := by decide +kernel
theorem dl1050 : decode code 1050 = .ok (.iaload, 1) := by decide +kernel
theorem dl1051 : decode code 1051 = .ok (.aload_n 0, 1) := by decide +kernel
theorem dl1052 : decode code 1052 = .ok (.iload_n 3, 1) := by decide +kernel
theorem dl1053 : decode code 1053 = .ok (.iconst 2, 1) := by decide +kernel
theorem dl1054 : decode code 1054 = .ok (.iadd, 1) := by decide +kernel
theorem dl1055 : decode code 1055 = .ok (.iaload, 1) := by decide +kernel
theorem dl1056 : decode code 1056 = .ok (.aload_n 0, 1) := by decide +kernel
theorem dl1057 : decode code 1057 = .ok (.iload_n 3, 1) := by decide +kernel
theorem dl1058 : decode code 1058 = .ok (.iconst 3, 1) := by decide +kernel
theorem dl1059 : decode code 1059 = .ok (.iadd, 1) := by decide +kernel
theorem dl1060 : decode code 1060 = .ok (.iaload, 1) := by decide +kernel
theorem dl1061 : decode code 1061 = .ok (.invokevirtual 122, 3) := by decide +kernel
theorem dl1064 : decode code 1064 = .ok (.if_icmp .eq 424, 3) := by decide +kernel
theorem dl1067 : decode code 1067 = .ok (.iconst 0, 1) := by decide +kernel
theorem dl1068 : decode code 1068 = .ok (.ireturn, 1) := by decide +kernel
theorem dl1069 : decode code 1069 = .ok (.aload_n 1, 1) := by decide +kernel
theorem dl1070 : decode code 1070 = .ok (.aload_n 0, 1) := by decide +kernel
theorem dl1071 : decode code 1071 = .ok (.iload_n 3, 1) := by decide +kernel
theorem dl1072 : decode code 1072 = .ok (.iconst 1, 1) := by decide +kernel
theorem dl1073 : decode code 1073 = .ok (.iadd, 1) := by decide +kernel
theorem dl1074 : decode code 1074 = .ok (.iaload, 1) := by decide +kernel
theorem dl1075 : decode code 1075 = .ok (.aload_n 0, 1) := by decide +kernel
theorem dl1076 : decode code 1076 = .ok (.iload_n 3, 1) := by decide +kernel
theorem dl1077 : decode code 1077 = .ok (.iconst 2, 1) := by decide +kernel
theorem dl1078 : decode code 1078 = .ok (.iadd, 1) := by decide +kernel
theorem dl1079 : decode code 1079 = .ok (.iaload, 1) := by decide +kernel
theorem dl1080 : decode code 1080 = .ok (.invokevirtual 123, 3) := by decide +kernel
theorem dl1083 : decode code 1083 = .ok (.aload_n 2, 1) := by decide +kernel
theorem dl1084 : decode code 1084 = .ok (.aload_n 0, 1) := by decide +kernel
theorem dl1085 : decode code 1085 = .ok (.iload_n 3, 1) := by decide +kernel
theorem dl1086 : decode code 1086 = .ok (.iconst 1, 1) := by decide +kernel
theorem dl1087 : decode code 1087 = .ok (.iadd, 1) := by decide +kernel
theorem dl1088 : decode code 1088 = .ok (.iaload, 1) := by decide +kernel
theorem dl1089 : decode code 1089 = .ok (.aload_n 0, 1) := by decide +kernel
theorem dl1090 : decode code 1090 = .ok (.iload_n 3, 1) := by decide +kernel
theorem dl1091 : decode code 1091 = .ok (.iconst 2, 1) := by decide +kernel
theorem dl1092 : decode code 1092 = .ok (.iadd, 1) := by decide +kernel
theorem dl1093 : decode code 1093 = .ok (.iaload, 1) := by decide +kernel
theorem dl1094 : decode code 1094 = .ok (.invokevirtual 126, 3) := by decide +kernel
theorem dl1097 : decode code 1097 = .ok (.if_icmp .eq 391, 3) := by decide +kernel
theorem dl1100 : decode code 1100 = .ok (.iconst 0, 1) := by decide +kernel
theorem dl1101 : decode code 1101 = .ok (.ireturn, 1) := by decide +kernel
theorem dl1102 : decode code 1102 = .ok (.aload_n 1, 1) := by decide +kernel
theorem dl1103 : decode code 1103 = .ok (.aload_n 0, 1) := by decide +kernel
theorem dl1104 : decode code 1104 = .ok (.iload_n 3, 1) := by decide +kernel
theorem dl1105 : decode code 1105 = .ok (.iconst 1, 1) := by decide +kernel
theorem dl1106 : decode code 1106 = .ok (.iadd, 1) := by decide +kernel
theorem dl1107 : decode code 1107 = .ok (.iaload, 1) := by decide +kernel
theorem dl1108 : decode code 1108 = .ok (.aload_n 0, 1) := by decide +kernel
theorem dl1109 : decode code 1109 = .ok (.iload_n 3, 1) := by decide +kernel
theorem dl1110 : decode code 1110 = .ok (.iconst 2, 1) := by decide +kernel
theorem dl1111 : decode code 1111 = .ok (.iadd, 1) := by decide +kernel
theorem dl1112 : decode code 1112 = .ok (.iaload, 1) := by decide +kernel
theorem dl1113 : decode code 1113 = .ok (.aload_n 0, 1) := by decide +kernel
theorem dl1114 : decode code 1114 = .ok (.iload_n 3, 1) := by decide +kernel
theorem dl1115 : decode code 1115 = .ok (.iconst 3, 1) := by decide +kernel
theorem dl1116 : decode code 1116 = .ok (.iadd, 1) := by decide +kernel
theorem dl1117 : decode code 1117 = .ok (.iaload, 1) := by decide +kernel
theorem dl1118 : decode code 1118 = .ok (.invokevirtual 127, 3) := by decide +kernel
theorem dl1121 : decode code 1121 = .ok (.aload_n 2, 1) := by decide +kernel
theorem dl1122 : decode code 1122 = .ok (.aload_n 0, 1) := by decide +kernel
theorem dl1123 : decode code 1123 = .ok (.iload_n 3, 1) := by decide +kernel
theorem dl1124 : decode code 1124 = .ok (.iconst 1, 1) := by decide +kernel
theorem dl1125 : decode code 1125 = .ok (.iadd, 1) := by decide +kernel
theorem dl1126 : decode code 1126 = .ok (.iaload, 1) := by decide +kernel
theorem dl1127 : decode code 1127 = .ok (.aload_n 0, 1) := by decide +kernel
theorem dl1128 : decode code 1128 = .ok (.iload_n 3, 1) := by decide +kernel
theorem dl1129 : decode code 1129 = .ok (.iconst 2, 1) := by decide +kernel
theorem dl1130 : decode code 1130 = .ok (.iadd, 1) := by decide +kernel
theorem dl1131 : decode code 1131 = .ok (.iaload, 1) := by decide +kernel
theorem dl1132 : decode code 1132 = .ok (.aload_n 0, 1) := by decide +kernel
theorem dl1133 : decode code 1133 = .ok (.iload_n 3, 1) := by decide +kernel
theorem dl1134 : decode code 1134 = .ok (.iconst 3, 1) := by decide +kernel
theorem dl1135 : decode code 1135 = .ok (.iadd, 1) := by decide +kernel
theorem dl1136 : decode code 1136 = .ok (.iaload, 1) := by decide +kernel
theorem dl1137 : decode code 1137 = .ok (.invokevirtual 130, 3) := by decide +kernel
theorem dl1140 : decode code 1140 = .ok (.if_icmp .eq 348, 3) := by decide +kernel
theorem dl1143 : decode code 1143 = .ok (.iconst 0, 1) := by decide +kernel
theorem dl1144 : decode code 1144 = .ok (.ireturn, 1) := by decide +kernel
theorem dl1145 : decode code 1145 = .ok (.aload_n 1, 1) := by decide +kernel
theorem dl1146 : decode code 1146 = .ok (.aload_n 0, 1) := by decide +kernel
theorem dl1147 : decode code 1147 = .ok (.iload_n 3, 1) := by decide +kernel
theorem dl1148 : decode code 1148 = .ok (.iconst 1, 1) := by decide +kernel
theorem dl1149 : decode code 1149 = .ok (.iadd, 1) := by decide +kernel
theorem dl1150 : decode code 1150 = .ok (.iaload, 1) := by decide +kernel
theorem dl1151 : decode code 1151 = .ok (.aload_n 0, 1) := by decide +kernel
theorem dl1152 : decode code 1152 = .ok (.iload_n 3, 1) := by decide +kernel
theorem dl1153 : decode code 1153 = .ok (.iconst 2, 1) := by decide +kernel
theorem dl1154 : decode code 1154 = .ok (.iadd, 1) := by decide +kernel
theorem dl1155 : decode code 1155 = .ok (.iaload, 1) := by decide +kernel
theorem dl1156 : decode code 1156 = .ok (.aload_n 0, 1) := by decide +kernel
theorem dl1157 : decode code 1157 = .ok (.iload_n 3, 1) := by decide +kernel
theorem dl1158 : decode code 1158 = .ok (.iconst 3, 1) := by decide +kernel
theorem dl1159 : decode code 1159 = .ok (.iadd, 1) := by decide +kernel
theorem dl1160 : decode code 1160 = .ok (.iaload, 1) := by decide +kernel
theorem dl1161 : decode code 1161 = .ok (.ifCond .eq 7, 3) := by decide +kernel
theorem dl1164 : decode code 1164 = .ok (.iconst 1, 1) := by decide +kernel
theorem dl1165 : decode code 1165 = .ok (.goto 4, 3) := by decide +kernel
theorem dl1168 : decode code 1168 = .ok (.iconst 0, 1) := by decide +kernel
theorem dl1169 : decode code 1169 = .ok (.invokevirtual 131, 3) := by decide +kernel
theorem dl1172 : decode code 1172 = .ok (.aload_n 2, 1) := by decide +kernel
theorem dl1173 : decode code 1173 = .ok (.aload_n 0, 1) := by decide +kernel
theorem dl1174 : decode code 1174 = .ok (.iload_n 3, 1) := by decide +kernel
theorem dl1175 : decode code 1175 = .ok (.iconst 1, 1) := by decide +kernel
theorem dl1176 : decode code 1176 = .ok (.iadd, 1) := by decide +kernel
theorem dl1177 : decode code 1177 = .ok (.iaload, 1) := by decide +kernel
theorem dl1178 : decode code 1178 = .ok (.aload_n 0, 1) := by decide +kernel
theorem dl1179 : decode code 1179 = .ok (.iload_n 3, 1) := by decide +kernel
theorem dl1180 : decode code 1180 = .ok (.iconst 2, 1) := by decide +kernel
theorem dl1181 : decode code 1181 = .ok (.iadd, 1) := by decide +kernel
theorem dl1182 : decode code 1182 = .ok (.iaload, 1) := by decide +kernel
theorem dl1183 : decode code 1183 = .ok (.aload_n 0, 1) := by decide +kernel
theorem dl1184 : decode code 1184 = .ok (.iload_n 3, 1) := by decide +kernel
theorem dl1185 : decode code 1185 = .ok (.iconst 3, 1) := by decide +kernel
theorem dl1186 : decode code 1186 = .ok (.iadd, 1) := by decide +kernel
theorem dl1187 : decode code 1187 = .ok (.iaload, 1) := by decide +kernel
theorem dl1188 : decode code 1188 = .ok (.ifCond .eq 7, 3) := by decide +kernel
theorem dl1191 : decode code 1191 = .ok (.iconst 1, 1) := by decide +kernel
theorem dl1192 : decode code 1192 = .ok (.goto 4, 3) := by decide +kernel
theorem dl1195 : decode code 1195 = .ok (.iconst 0, 1) := by decide +kernel
theorem dl1196 : decode code 1196 = .ok (.invokevirtual 135, 3) := by decide +kernel
theorem dl1199 : decode code 1199 = .ok (.if_icmp .eq 289, 3) := by decide +kernel
theorem dl1202 : decode code 1202 = .ok (.iconst 0, 1) := by decide +kernel
theorem dl1203 : decode code 1203 = .ok (.ireturn, 1) := by decide +kernel
theorem dl1204 : decode code 1204 = .ok (.aload_n 1, 1) := by decide +kernel
theorem dl1205 : decode code 1205 = .ok (.aload_n 0, 1) := by decide +kernel
theorem dl1206 : decode code 1206 = .ok (.iload_n 3, 1) := by decide +kernel
theorem dl1207 : decode code 1207 = .ok (.iconst 1, 1) := by decide +kernel
theorem dl1208 : decode code 1208 = .ok (.iadd, 1) := by decide +kernel
theorem dl1209 : decode code 1209 = .ok (.iaload, 1) := by decide +kernel
theorem dl1210 : decode code 1210 = .ok (.aload_n 0, 1) := by decide +kernel
theorem dl1211 : decode code 1211 = .ok (.iload_n 3, 1) := by decide +kernel
theorem dl1212 : decode code 1212 = .ok (.iconst 2, 1) := by decide +kernel
theorem dl1213 : decode code 1213 = .ok (.iadd, 1) := by decide +kernel
theorem dl1214 : decode code 1214 = .ok (.iaload, 1) := by decide +kernel
theorem dl1215 : decode code 1215 = .ok (.ifCond .eq 7, 3) := by decide +kernel
theorem dl1218 : decode code 1218 = .ok (.iconst 1, 1) := by decide +kernel
theorem dl1219 : decode code 1219 = .ok (.goto 4, 3) := by decide +kernel
theorem dl1222 : decode code 1222 = .ok (.iconst 0, 1) := by decide +kernel
theorem dl1223 : decode code 1223 = .ok (.invokevirtual 136, 3) := by decide +kernel
theorem dl1226 : decode code 1226 = .ok (.aload_n 2, 1) := by decide +kernel
theorem dl1227 : decode code 1227 = .ok (.aload_n 0, 1) := by decide +kernel
theorem dl1228 : decode code 1228 = .ok (.iload_n 3, 1) := by decide +kernel
theorem dl1229 : decode code 1229 = .ok (.iconst 1, 1) := by decide +kernel
theorem dl1230 : decode code 1230 = .ok (.iadd, 1) := by decide +kernel
theorem dl1231 : decode code 1231 = .ok (.iaload, 1) := by decide +kernel
theorem dl1232 : decode code 1232 = .ok (.aload_n 0, 1) := by decide +kernel
theorem dl1233 : decode code 1233 = .ok (.iload_n 3, 1) := by decide +kernel
theorem dl1234 : decode code 1234 = .ok (.iconst 2, 1) := by decide +kernel
theorem dl1235 : decode code 1235 = .ok (.iadd, 1) := by decide +kernel
theorem dl1236 : decode code 1236 = .ok (.iaload, 1) := by decide +kernel
theorem dl1237 : decode code 1237 = .ok (.ifCond .eq 7, 3) := by decide +kernel
theorem dl1240 : decode code 1240 = .ok (.iconst 1, 1) := by decide +kernel
theorem dl1241 : decode code 1241 = .ok (.goto 4, 3) := by decide +kernel
theorem dl1244 : decode code 1244 = .ok (.iconst 0, 1) := by decide +kernel
theorem dl1245 : decode code 1245 = .ok (.invokevirtual 140, 3) := by decide +kernel
theorem dl1248 : decode code 1248 = .ok (.if_icmp .eq 240, 3) := by decide +kernel
theorem dl1251 : decode code 1251 = .ok (.iconst 0, 1) := by decide +kernel
theorem dl1252 : decode code 1252 = .ok (.ireturn, 1) := by decide +kernel
theorem dl1253 : decode code 1253 = .ok (.aload_n 1, 1) := by decide +kernel
theorem dl1254 : decode code 1254 = .ok (.invokevirtual 141, 3) := by decide +kernel
theorem dl1257 : decode code 1257 = .ok (.aload_n 2, 1) := by decide +kernel
theorem dl1258 : decode code 1258 = .ok (.invokevirtual 145, 3) := by decide +kernel
theorem dl1261 : decode code 1261 = .ok (.if_icmp .eq 227, 3) := by decide +kernel
theorem dl1264 : decode code 1264 = .ok (.iconst 0, 1) := by decide +kernel
theorem dl1265 : decode code 1265 = .ok (.ireturn, 1) := by decide +kernel
theorem dl1266 : decode code 1266 = .ok (.aload_n 1, 1) := by decide +kernel
theorem dl1267 : decode code 1267 = .ok (.invokevirtual 146, 3) := by decide +kernel
theorem dl1270 : decode code 1270 = .ok (.aload_n 2, 1) := by decide +kernel
theorem dl1271 : decode code 1271 = .ok (.invokevirtual 149, 3) := by decide +kernel
theorem dl1274 : decode code 1274 = .ok (.if_icmp .eq 214, 3) := by decide +kernel
theorem dl1277 : decode code 1277 = .ok (.iconst 0, 1) := by decide +kernel
theorem dl1278 : decode code 1278 = .ok (.ireturn, 1) := by decide +kernel
theorem dl1279 : decode code 1279 = .ok (.aload_n 1, 1) := by decide +kernel
theorem dl1280 : decode code 1280 = .ok (.aload_n 0, 1) := by decide +kernel
theorem dl1281 : decode code 1281 = .ok (.iload_n 3, 1) := by decide +kernel
theorem dl1282 : decode code 1282 = .ok (.iconst 1, 1) := by decide +kernel
theorem dl1283 : decode code 1283 = .ok (.iadd, 1) := by decide +kernel
theorem dl1284 : decode code 1284 = .ok (.iaload, 1) := by decide +kernel
theorem dl1285 : decode code 1285 = .ok (.aload_n 0, 1) := by decide +kernel
theorem dl1286 : decode code 1286 = .ok (.iload_n 3, 1) := by decide +kernel
theorem dl1287 : decode code 1287 = .ok (.iconst 2, 1) := by decide +kernel
theorem dl1288 : decode code 1288 = .ok (.iadd, 1) := by decide +kernel
theorem dl1289 : decode code 1289 = .ok (.iaload, 1) := by decide +kernel
theorem dl1290 : decode code 1290 = .ok (.aload_n 0, 1) := by decide +kernel
theorem dl1291 : decode code 1291 = .ok (.iload_n 3, 1) := by decide +kernel
theorem dl1292 : decode code 1292 = .ok (.iconst 3, 1) := by decide +kernel
theorem dl1293 : decode code 1293 = .ok (.iadd, 1) := by decide +kernel
theorem dl1294 : decode code 1294 = .ok (.iaload, 1) := by decide +kernel
theorem dl1295 : decode code 1295 = .ok (.invokevirtual 150, 3) := by decide +kernel
theorem dl1298 : decode code 1298 = .ok (.aload_n 2, 1) := by decide +kernel
theorem dl1299 : decode code 1299 = .ok (.aload_n 0, 1) := by decide +kernel
theorem dl1300 : decode code 1300 = .ok (.iload_n 3, 1) := by decide +kernel
theorem dl1301 : decode code 1301 = .ok (.iconst 1, 1) := by decide +kernel
theorem dl1302 : decode code 1302 = .ok (.iadd, 1) := by decide +kernel
theorem dl1303 : decode code 1303 = .ok (.iaload, 1) := by decide +kernel
theorem dl1304 : decode code 1304 = .ok (.aload_n 0, 1) := by decide +kernel
theorem dl1305 : decode code 1305 = .ok (.iload_n 3, 1) := by decide +kernel
theorem dl1306 : decode code 1306 = .ok (.iconst 2, 1) := by decide +kernel
theorem dl1307 : decode code 1307 = .ok (.iadd, 1) := by decide +kernel
theorem dl1308 : decode code 1308 = .ok (.iaload, 1) := by decide +kernel
theorem dl1309 : decode code 1309 = .ok (.aload_n 0, 1) := by decide +kernel
theorem dl1310 : decode code 1310 = .ok (.iload_n 3, 1) := by decide +kernel
theorem dl1311 : decode code 1311 = .ok (.iconst 3, 1) := by decide +kernel
theorem dl1312 : decode code 1312 = .ok (.iadd, 1) := by decide +kernel
theorem dl1313 : decode code 1313 = .ok (.iaload, 1) := by decide +kernel
theorem dl1314 : decode code 1314 = .ok (.invokevirtual 153, 3) := by decide +kernel
theorem dl1317 : decode code 1317 = .ok (.if_icmp .eq 171, 3) := by decide +kernel
theorem dl1320 : decode code 1320 = .ok (.iconst 0, 1) := by decide +kernel
theorem dl1321 : decode code 1321 = .ok (.ireturn, 1) := by decide +kernel
theorem dl1322 : decode code 1322 = .ok (.aload_n 1, 1) := by decide +kernel
theorem dl1323 : decode code 1323 = .ok (.aload_n 0, 1) := by decide +kernel
theorem dl1324 : decode code 1324 = .ok (.iload_n 3, 1) := by decide +kernel
theorem dl1325 : decode code 1325 = .ok (.iconst 1, 1) := by decide +kernel
theorem dl1326 : decode code 1326 = .ok (.iadd, 1) := by decide +kernel
theorem dl1327 : decode code 1327 = .ok (.iaload, 1) := by decide +kernel
theorem dl1328 : decode code 1328 = .ok (.aload_n 0, 1) := by decide +kernel
theorem dl1329 : decode code 1329 = .ok (.iload_n 3, 1) := by decide +kernel
theorem dl1330 : decode code 1330 = .ok (.iconst 2, 1) := by decide +kernel
theorem dl1331 : decode code 1331 = .ok (.iadd, 1) := by decide +kernel
theorem dl1332 : decode code 1332 = .ok (.iaload, 1) := by decide +kernel
theorem dl1333 : decode code 1333 = .ok (.aload_n 0, 1) := by decide +kernel
theorem dl1334 : decode code 1334 = .ok (.iload_n 3, 1) := by decide +kernel
theorem dl1335 : decode code 1335 = .ok (.iconst 3, 1) := by decide +kernel
theorem dl1336 : decode code 1336 = .ok (.iadd, 1) := by decide +kernel
theorem dl1337 : decode code 1337 = .ok (.iaload, 1) := by decide +kernel
theorem dl1338 : decode code 1338 = .ok (.i2l, 1) := by decide +kernel
theorem dl1339 : decode code 1339 = .ok (.bipush 32, 2) := by decide +kernel
theorem dl1341 : decode code 1341 = .ok (.lshl, 1) := by decide +kernel
theorem dl1342 : decode code 1342 = .ok (.aload_n 0, 1) := by decide +kernel
theorem dl1343 : decode code 1343 = .ok (.iload_n 3, 1) := by decide +kernel
theorem dl1344 : decode code 1344 = .ok (.iconst 4, 1) := by decide +kernel
theorem dl1345 : decode code 1345 = .ok (.iadd, 1) := by decide +kernel
theorem dl1346 : decode code 1346 = .ok (.iaload, 1) := by decide +kernel
theorem dl1347 : decode code 1347 = .ok (.i2l, 1) := by decide +kernel
theorem dl1348 : decode code 1348 = .ok (.ldc2_w 154, 3) := by decide +kernel
theorem dl1351 : decode code 1351 = .ok (.land, 1) := by decide +kernel
theorem dl1352 : decode code 1352 = .ok (.lor, 1) := by decide +kernel
theorem dl1353 : decode code 1353 = .ok (.invokevirtual 156, 3) := by decide +kernel
theorem dl1356 : decode code 1356 = .ok (.aload_n 2, 1) := by decide +kernel
theorem dl1357 : decode code 1357 = .ok (.aload_n 0, 1) := by decide +kernel
theorem dl1358 : decode code 1358 = .ok (.iload_n 3, 1) := by decide +kernel
theorem dl1359 : decode code 1359 = .ok (.iconst 1, 1) := by decide +kernel
theorem dl1360 : decode code 1360 = .ok (.iadd, 1) := by decide +kernel
theorem dl1361 : decode code 1361 = .ok (.iaload, 1) := by decide +kernel
theorem dl1362 : decode code 1362 = .ok (.aload_n 0, 1) := by decide +kernel
theorem dl1363 : decode code 1363 = .ok (.iload_n 3, 1) := by decide +kernel
theorem dl1364 : decode code 1364 = .ok (.iconst 2, 1) := by decide +kernel
theorem dl1365 : decode code 1365 = .ok (.iadd, 1) := by decide +kernel
theorem dl1366 : decode code 1366 = .ok (.iaload, 1) := by decide +kernel
theorem dl1367 : decode code 1367 = .ok (.aload_n 0, 1) := by decide +kernel
theorem dl1368 : decode code 1368 = .ok (.iload_n 3, 1) := by decide +kernel
theorem dl1369 : decode code 1369 = .ok (.iconst 3, 1) := by decide +kernel
theorem dl1370 : decode code 1370 = .ok (.iadd, 1) := by decide +kernel
theorem dl1371 : decode code 1371 = .ok (.iaload, 1) := by decide +kernel
theorem dl1372 : decode code 1372 = .ok (.i2l, 1) := by decide +kernel
theorem dl1373 : decode code 1373 = .ok (.bipush 32, 2) := by decide +kernel
theorem dl1375 : decode code 1375 = .ok (.lshl, 1) := by decide +kernel
theorem dl1376 : decode code 1376 = .ok (.aload_n 0, 1) := by decide +kernel
theorem dl1377 : decode code 1377 = .ok (.iload_n 3, 1) := by decide +kernel
theorem dl1378 : decode code 1378 = .ok (.iconst 4, 1) := by decide +kernel
theorem dl1379 : decode code 1379 = .ok (.iadd, 1) := by decide +kernel
theorem dl1380 : decode code 1380 = .ok (.iaload, 1) := by decide +kernel
theorem dl1381 : decode code 1381 = .ok (.i2l, 1) := by decide +kernel
theorem dl1382 : decode code 1382 = .ok (.ldc2_w 154, 3) := by decide +kernel
theorem dl1385 : decode code 1385 = .ok (.land, 1) := by decide +kernel
theorem dl1386 : decode code 1386 = .ok (.lor, 1) := by decide +kernel
theorem dl1387 : decode code 1387 = .ok (.invokevirtual 160, 3) := by decide +kernel
theorem dl1390 : decode code 1390 = .ok (.lcmp, 1) := by decide +kernel
theorem dl1391 : decode code 1391 = .ok (.ifCond .eq 97, 3) := by decide +kernel
theorem dl1394 : decode code 1394 = .ok (.iconst 0, 1) := by decide +kernel
theorem dl1395 : decode code 1395 = .ok (.ireturn, 1) := by decide +kernel
theorem dl1396 : decode code 1396 = .ok (.aload_n 1, 1) := by decide +kernel
theorem dl1397 : decode code 1397 = .ok (.aload_n 0, 1) := by decide +kernel
theorem dl1398 : decode code 1398 = .ok (.iload_n 3, 1) := by decide +kernel
theorem dl1399 : decode code 1399 = .ok (.iconst 1, 1) := by decide +kernel
theorem dl1400 : decode code 1400 = .ok (.iadd, 1) := by decide +kernel
theorem dl1401 : decode code 1401 = .ok (.iaload, 1) := by decide +kernel
theorem dl1402 : decode code 1402 = .ok (.invokevirtual 161, 3) := by decide +kernel
theorem dl1405 : decode code 1405 = .ok (.aload_n 2, 1) := by decide +kernel
theorem dl1406 : decode code 1406 = .ok (.aload_n 0, 1) := by decide +kernel
theorem dl1407 : decode code 1407 = .ok (.iload_n 3, 1) := by decide +kernel
theorem dl1408 : decode code 1408 = .ok (.iconst 1, 1) := by decide +kernel
theorem dl1409 : decode code 1409 = .ok (.iadd, 1) := by decide +kernel
theorem dl1410 : decode code 1410 = .ok (.iaload, 1) := by decide +kernel
theorem dl1411 : decode code 1411 = .ok (.invokevirtual 164, 3) := by decide +kernel
theorem dl1414 : decode code 1414 = .ok (.if_icmp .eq 74, 3) := by decide +kernel
theorem dl1417 : decode code 1417 = .ok (.iconst 0, 1) := by decide +kernel
theorem dl1418 : decode code 1418 = .ok (.ireturn, 1) := by decide +kernel
theorem dl1419 : decode code 1419 = .ok (.aload_n 1, 1) := by decide +kernel
theorem dl1420 : decode code 1420 = .ok (.aload_n 0, 1) := by decide +kernel
theorem dl1421 : decode code 1421 = .ok (.iload_n 3, 1) := by decide +kernel
theorem dl1422 : decode code 1422 = .ok (.iconst 1, 1) := by decide +kernel
theorem dl1423 : decode code 1423 = .ok (.iadd, 1) := by decide +kernel
theorem dl1424 : decode code 1424 = .ok (.iaload, 1) := by decide +kernel
theorem dl1425 : decode code 1425 = .ok (.invokevirtual 165, 3) := by decide +kernel
theorem dl1428 : decode code 1428 = .ok (.aload_n 2, 1) := by decide +kernel
theorem dl1429 : decode code 1429 = .ok (.aload_n 0, 1) := by decide +kernel
theorem dl1430 : decode code 1430 = .ok (.iload_n 3, 1) := by decide +kernel
theorem dl1431 : decode code 1431 = .ok (.iconst 1, 1) := by decide +kernel
theorem dl1432 : decode code 1432 = .ok (.iadd, 1) := by decide +kernel
theorem dl1433 : decode code 1433 = .ok (.iaload, 1) := by decide +kernel
theorem dl1434 : decode code 1434 = .ok (.invokevirtual 168, 3) := by decide +kernel
theorem dl1437 : decode code 1437 = .ok (.if_icmp .eq 51, 3) := by decide +kernel
theorem dl1440 : decode code 1440 = .ok (.iconst 0, 1) := by decide +kernel
theorem dl1441 : decode code 1441 = .ok (.ireturn, 1) := by decide +kernel
theorem dl1442 : decode code 1442 = .ok (.aload_n 1, 1) := by decide +kernel
theorem dl1443 : decode code 1443 = .ok (.aload_n 0, 1) := by decide +kernel
theorem dl1444 : decode code 1444 = .ok (.iload_n 3, 1) := by decide +kernel
theorem dl1445 : decode code 1445 = .ok (.iconst 1, 1) := by decide +kernel
theorem dl1446 : decode code 1446 = .ok (.iadd, 1) := by decide +kernel
theorem dl1447 : decode code 1447 = .ok (.iaload, 1) := by decide +kernel
theorem dl1448 : decode code 1448 = .ok (.invokevirtual 169, 3) := by decide +kernel
theorem dl1451 : decode code 1451 = .ok (.aload_n 2, 1) := by decide +kernel
theorem dl1452 : decode code 1452 = .ok (.aload_n 0, 1) := by decide +kernel
theorem dl1453 : decode code 1453 = .ok (.iload_n 3, 1) := by decide +kernel
theorem dl1454 : decode code 1454 = .ok (.iconst 1, 1) := by decide +kernel
theorem dl1455 : decode code 1455 = .ok (.iadd, 1) := by decide +kernel
theorem dl1456 : decode code 1456 = .ok (.iaload, 1) := by decide +kernel
theorem dl1457 : decode code 1457 = .ok (.invokevirtual 172, 3) := by decide +kernel
theorem dl1460 : decode code 1460 = .ok (.if_icmp .eq 28, 3) := by decide +kernel
theorem dl1463 : decode code 1463 = .ok (.iconst 0, 1) := by decide +kernel
theorem dl1464 : decode code 1464 = .ok (.ireturn, 1) := by decide +kernel
theorem dl1465 : decode code 1465 = .ok (.aload_n 1, 1) := by decide +kernel
theorem dl1466 : decode code 1466 = .ok (.aload_n 0, 1) := by decide +kernel
theorem dl1467 : decode code 1467 = .ok (.iload_n 3, 1) := by decide +kernel
theorem dl1468 : decode code 1468 = .ok (.iconst 1, 1) := by decide +kernel
theorem dl1469 : decode code 1469 = .ok (.iadd, 1) := by decide +kernel
theorem dl1470 : decode code 1470 = .ok (.iaload, 1) := by decide +kernel
theorem dl1471 : decode code 1471 = .ok (.invokevirtual 173, 3) := by decide +kernel
theorem dl1474 : decode code 1474 = .ok (.aload_n 2, 1) := by decide +kernel
theorem dl1475 : decode code 1475 = .ok (.aload_n 0, 1) := by decide +kernel
theorem dl1476 : decode code 1476 = .ok (.iload_n 3, 1) := by decide +kernel
theorem dl1477 : decode code 1477 = .ok (.iconst 1, 1) := by decide +kernel
theorem dl1478 : decode code 1478 = .ok (.iadd, 1) := by decide +kernel
theorem dl1479 : decode code 1479 = .ok (.iaload, 1) := by decide +kernel
theorem dl1480 : decode code 1480 = .ok (.invokevirtual 176, 3) := by decide +kernel
theorem dl1483 : decode code 1483 = .ok (.if_icmp .eq 5, 3) := by decide +kernel
theorem dl1486 : decode code 1486 = .ok (.iconst 0, 1) := by decide +kernel
theorem dl1487 : decode code 1487 = .ok (.ireturn, 1) := by decide +kernel
theorem dl1488 : decode code 1488 = .ok (.iinc 3 6, 3) := by decide +kernel
theorem dl1491 : decode code 1491 = .ok (.goto (-1473), 3) := by decide +kernel
theorem dl1494 : decode code 1494 = .ok (.iconst 1, 1) := by decide +kernel
theorem dl1495 : decode code 1495 = .ok (.ireturn, 1) := by decide +kernel
section LAW
variable {p : Program} {l : Launch} {e : Env} {s : State} {m : MethodId} {below : List Frame} {meth : Method} {c : Code} {b L : Nat} {xs : Nat → Int32} {D : va_G} {ad : Nat → Nat} {cA : Nat → ClassId} {fm : Value} {Qm : State → Prop}
/-- what holds all through the law -/
def lq_Cx (D : va_G) (ad : Nat → Nat) (cA : Nat → ClassId) (fm : Value) (p : Program) (s : State) (m : MethodId) (meth : Method) (c : Code) (b L : Nat) (xs : Nat → Int32) : Prop := lw_At p s m meth c b L xs ∧ va_K D vwCl (mw_ty cA) s ∧ mw_Cs ad fm (mw_A ad s.heap.size) s s.heap ∧ fm.category = 1 ∧ mw_inj ad ∧ ∀ k, k < mw_sh.length → s.heap.size ≤ ad k
theorem lq_len : mw_sh.length = 125 := by decide +kernel
theorem lq_callG {R : Room} {args : Array Value} {cells slots pc : Nat} {ls : Array Slot} {rest st0 : List Value} {H H0 : Heap} {locs : List Loc} {A0 A1 : Nat → Prop} {free : Addr → Prop} {v : Option Value} {P : Heap → Prop} (hr : va_Run p l e R s m args below meth c H locs cells slots 0 0 (F0 m pc ls st0) rest (fun st oc t => (oc = .returned v ∧ P t.heap) ∧ va_F A1 st t) free) (hS : va_S A0 H0 H locs) (hA : ∀ q, q < H.size → A1 q → A0 q) (hf : ∀ q, free q → A0 q)
    (kk : ∀ (H1 : Heap) (locs1 : List Loc), P H1 → va_S A0 H0 H1 locs1 → W p l e R s m args below meth c H1 locs1 cells slots Qm (F0 m (pc + 3) ls (v.toList ++ rest))) : W p l e R s m args below meth c H locs cells slots Qm (F0 m pc ls st0) := by
  intro T hT X
  obtain ⟨w, st₀, t, T', L, h0, X', hL, e1, e2, ⟨⟨hv, hp⟩, hz, hk⟩, st⟩ := hr T hT X
  cases hv
  rw [h0] at hz hk
  obtain ⟨t2, a1, b1⟩ := kk T'.heap (locs ++ L) (by rw [e1]; exact hp)
    ⟨Nat.le_trans hS.1 (by rw [e1]; exact hz), fun q h1 h2 => by rw [e1, hk q (Nat.lt_of_lt_of_le h1 hS.1) (fun z => h2 (hA q (Nat.lt_of_lt_of_le h1 hS.1) z))]; exact hS.2.1 q h1 h2, fun q hq => by
      rcases List.mem_append.mp hq with h | h
      · exact hS.2.2 q h
      · exact hf _ (hL q h)⟩ T' rfl X'
  exact ⟨t2, st t2 a1, b1⟩
theorem lq_recv (hK : va_K D vwCl (mw_ty cA) s) (hCs : mw_Cs ad fm (mw_A ad s.heap.size) s s.heap) {H : Heap} {locs : List Loc} {σ : mw_S} {a mj : Nat} {mf : mw_Me} (hf : mw_mT[mj]? = some mf) (ha : mw_rc a = mf.2.2.2.2.2.2) (ha1 : a < mw_sh.length) (ha0 : mw_sh.length ≤ 1000) (hP : va_P D vwCl (mw_ws ad cA σ) H) (hS : va_S (mw_A ad s.heap.size) s.heap H locs) : mf.2.2.2.2.2.2 ≠ 0 ∧ ∃ cellB : Cell, H[ad a]? = some cellB ∧ cellB.vm.isStatics = false ∧ s.vm.findClass mf.1.cls = some cellB.cls := by
  obtain ⟨k1, k2, k3, k4, k5, k6, k7⟩ := mw_okM_of hf
  have hlen : vwCl.length = 12 := rfl
  unfold mw_rc at ha
  rw [if_neg (by omega)] at ha
  split at ha
  · rename_i ci fs hsh
    rw [← ha] at k7 ⊢
    refine ⟨by omega, ?_⟩
    have hok := mw_sh_ok hsh
    simp only [mw_okC, mw_okF] at hok
    split at hok
    · rename_i q hq
      have hci : ci < 12 := by rw [← hlen]; exact (List.getElem?_eq_some_iff.mp hq).1
      have hc : mf.1.cls = q.1 := by
        rcases k7 with k7 | k7 | k7
        · omega
        · omega
        · rw [show ci + 1 - 1 = ci by omega, hq] at k7
          exact (Option.some.inj k7).symm
      rw [hc]
      exact va_recv hK hP hq (mw_ws_at hsh)
    · cases hok
  · exfalso
    rw [← ha] at k7
    rcases k7 with k7 | k7 | k7
    · exact absurd k7 (by decide)
    · exact absurd k7.1 (by decide)
    · rw [List.getElem?_eq_none (by rw [hlen]; decide)] at k7
      cases k7
theorem lq_call (hx : lq_Cx D ad cA fm p s m meth c b L xs) {x mj a pc cells slots : Nat} {mf : mw_Me} {as rest : List mw_V} {σ : mw_S} {H : Heap} {locs : List Loc} {ls : Array Slot} {P : Option mw_V → mw_S → Prop} (hf : mw_mT[mj]? = some mf) (hlink : Cond.methodLink R_law x mf.1 ∈ lw_tbl) (hn : as.length = mf.2.2.2.2.2.1) (hrc : mw_rc a = mf.2.2.2.2.2.2) (ha1 : a < mw_sh.length) (h8 : (rest.map mw_cat).sum ≤ 8) (hd : decode code pc = .ok (.invokevirtual x, 3)) (hsz : ls.size = 4) (hc1 : cells ≤ 600000) (hc2 : slots ≤ 7302250) (oS : mw_okS σ) (oL : mw_okL as) (hP : va_P D vwCl (mw_ws ad cA σ) H) (hS : va_S (mw_A ad s.heap.size) s.heap H locs) (h : mw_Call 800 mj (jR a :: as) σ P)
    (kk : ∀ (r : Option mw_V) (σ1 : mw_S) (H1 : Heap) (locs1 : List Loc), P r σ1 → mw_okS σ1 → (∀ v, r = some v → mw_ok v) → va_P D vwCl (mw_ws ad cA σ1) H1 → va_S (mw_A ad s.heap.size) s.heap H1 locs1 → W p l e room_1 s m #[Value.ref b] below meth c H1 locs1 cells slots Qm (F0 m (pc + 3) ls ((r.toList ++ rest).map (mw_tr ad fm)))) : W p l e room_1 s m #[Value.ref b] below meth c H locs cells slots Qm (F0 m pc ls ((as.reverse ++ jR a :: rest).map (mw_tr ad fm))) := by
  obtain ⟨⟨hex, hb, hr, hml, hown, hts, hX, hbl, hlocks, hgv⟩, hK, hCs, hfm, hinj, hlo⟩ := hx
  obtain ⟨r1, σ1, h3, h4⟩ := h
  obtain ⟨k1, k2, k3, k4, k5, k6, k7⟩ := mw_okM_of hf
  obtain ⟨hrc0, hcell⟩ := lq_recv hK hCs hf hrc ha1 (by rw [lq_len]; decide) hP hS
  obtain ⟨w1, w2, w3, w4⟩ := mw_ws_m hf
  obtain ⟨w5, w6⟩ := w4 hrc0
  have okall : mw_okL (jR a :: as) := oL.cons trivial
  have hM := mw_all (l := l) (D := D) (ad := ad) (cA := cA) hinj hfm 800 mj mf _ σ r1 σ1 H.size hf okall oS h3
  have inT : ∀ {w : Cond}, w ∈ mw_wd → w ∈ lw_tbl ∧ ((w.onTables && w.keeps) = true ∨ ∃ ty, w = .arrayClass ty) := fun h => ⟨mw_wd_in h, (mw_goodC h).2⟩
  refine lq_callG (A1 := mw_A ad H.size) (v := r1.map (mw_tr ad fm)) (rest := rest.map (mw_tr ad fm)) (P := fun H1 => va_P D vwCl (mw_ws ad cA σ1) H1 ∧ mw_okS σ1 ∧ ∀ v, r1 = some v → mw_ok v) (va_runV (As := as.map (mw_tr ad fm)) (b := ad a) (rest := rest.map (mw_tr ad fm)) (n := mf.2.2.2.2.2.1) (C := mf.1.cls) (Ts := lw_tbl) (own := R_law) (nL := 4) ⟨hex, hb, hml, hown, hts⟩ hM (cwV mf.2.2.2.2.2.1 hts ?_ rfl rfl rfl ⟨rfl, k3, k4, k5⟩ ⟨Nat.le_of_ble_eq_true rfl, ?_⟩) ⟨mw_blind, hcell, fun U hU hW => ?_⟩ rfl ?_ hsz ?_ (lv_room ?_) hd ⟨?_, ?_⟩) hS (fun q _ h => mw_narrow hS.1 q h) (fun q h => mw_narrow hS.1 q h) (fun H1 locs1 hq hS1 => ?_)
  · intro w hw
    simp only [wsV, List.mem_append, List.mem_cons, List.not_mem_nil, or_false] at hw
    rcases hw with (rfl | rfl | rfl | rfl) | (rfl | hw)
    · exact inT (mw_wd_of hlink rfl)
    · exact inT w5
    · exact inT w6
    · exact inT w2
    · exact inT w1
    · exact inT hw
  · show 8 + (mf.2.2.1 + 11) + 100 * 800 ≤ 84000
    omega
  · refine ⟨rfl, by rw [hU], by rw [hU]; exact hP, va_K.moved hW.alike hK, ?_⟩
    rw [hU]
    exact hCs.to hW hS.2.1 (mw_narrow hS.1)
  · rw [List.length_map, hn]
  · show (as.reverse ++ jR a :: rest).map (mw_tr ad fm) = _
    rw [List.map_append, List.map_reverse]
    rfl
  · rw [mw_catsum hfm]
    exact h8
  · exact hc1
  · exact hc2
  · rw [mw_after]
    exact kk r1 σ1 H1 locs1 h4 hq.2.1 hq.2.2 hq.1 hS1
theorem lq_tr (v : Int32) : mw_tr ad fm (jI v.toInt) = .int v := congrArg Value.int (i32_of v)
theorem lq_trL (v : Int64) : mw_tr ad fm (jL v.toInt) = .long v := congrArg Value.long (i64_of v)
theorem lq_cmp (x : Int64) : lg_cmp x x = 0 := by
  unfold lg_cmp
  simp [Int64.lt_irrefl]
/-- the law's locals -/
def lq_lv (ad : Nat → Nat) (b : Nat) (x3 : Int32) : List (Nat × Value) := [(0, .ref b), (1, .ref (ad 0)), (2, .ref (ad 100)), (3, .int x3)]

set_option maxHeartbeats 4000000 in
theorem lq_c0 (hx : lq_Cx D ad cA fm p s m meth c b L xs) (hL : L ≤ 3072) {I : Nat → mw_S → Prop} (hag : ag_feed I) {n i : Nat} {x3 : Int32} (ex : x3 = nI i) (hi : i + 6 ≤ L) (hn : n < 512) {σ : mw_S} (hI : I n σ) (oS : mw_okS σ) {H : Heap} {locs : List Loc} {ls : Array Slot} (hP : va_P D vwCl (mw_ws ad cA σ) H) (hS : va_S (mw_A ad s.heap.size) s.heap H locs) (hl : lv_has ls 4 (lq_lv ad b x3)) {cells slots : Nat} (hc1 : cells ≤ 600000) (hc2 : slots ≤ 7302250)
    (K : ∀ (σ' : mw_S) (H' : Heap) (locs' : List Loc), I (n + 1) σ' → mw_okS σ' → va_P D vwCl (mw_ws ad cA σ') H' → va_S (mw_A ad s.heap.size) s.heap H' locs' → W p l e room_1 s m #[Value.ref b] below meth c H' locs' cells slots Qm (F0 m 1488 ls [])) : W p l e room_1 s m #[Value.ref b] below meth c H locs cells slots Qm (F0 m 200 ls []) := by
  have hx0 := hx
  obtain ⟨⟨hex, hb, hr, hml, hown, hts, hX, hbl, hlocks, hgv⟩, hK, hCs, hfm, hinj, hlo⟩ := hx
  have hbA : ¬ mw_A ad s.heap.size b := fun q => by
    rcases q with ⟨k, h1, h2⟩ | q
    · have := hlo k h1
      omega
    · omega
  have h_1 : vp_in (x3 + 1) L := by rw [ex, show (1 : Int32) = nI 1 from rfl, nI_add]; exact vp_in_nI (by omega) (by omega)
  obtain ⟨w1, ew1⟩ : ∃ y : Int32, y = xs (x3 + 1).toNatClampNeg := ⟨_, rfl⟩
  have h_2 : vp_in (x3 + 2) L := by rw [ex, show (2 : Int32) = nI 2 from rfl, nI_add]; exact vp_in_nI (by omega) (by omega)
  obtain ⟨w2, ew2⟩ : ∃ y : Int32, y = xs (x3 + 2).toNatClampNeg := ⟨_, rfl⟩
  have h_3 : vp_in (x3 + 3) L := by rw [ex, show (3 : Int32) = nI 3 from rfl, nI_add]; exact vp_in_nI (by omega) (by omega)
  obtain ⟨w3, ew3⟩ : ∃ y : Int32, y = xs (x3 + 3).toNatClampNeg := ⟨_, rfl⟩
  have h_4 : vp_in (x3 + 4) L := by rw [ex, show (4 : Int32) = nI 4 from rfl, nI_add]; exact vp_in_nI (by omega) (by omega)
  obtain ⟨w4, ew4⟩ : ∃ y : Int32, y = xs (x3 + 4).toNatClampNeg := ⟨_, rfl⟩
  have h_5 : vp_in (x3 + 5) L := by rw [ex, show (5 : Int32) = nI 5 from rfl, nI_add]; exact vp_in_nI (by omega) (by omega)
  obtain ⟨w5, ew5⟩ : ∃ y : Int32, y = xs (x3 + 5).toNatClampNeg := ⟨_, rfl⟩
  refine lv_aload_n hex hb dl200 rfl (lv_at hl 1 rfl) ?_
  refine lv_aload_n hex hb dl201 rfl (lv_at hl 0 rfl) ?_
  refine lv_iload_n hex hb dl202 rfl (lv_at hl 3 rfl) ?_
  refine lv_iconst (v := 1) hex hb dl203 (by decide) ?_
  refine lv_iadd hex hb dl204 ?_
  refine va_sld hex hb hX hbl hbA hS h_1 dl205 ?_
  rw [← ew1]
  refine lv_aload_n hex hb dl206 rfl (lv_at hl 0 rfl) ?_
  refine lv_iload_n hex hb dl207 rfl (lv_at hl 3 rfl) ?_
  refine lv_iconst (v := 2) hex hb dl208 (by decide) ?_
  refine lv_iadd hex hb dl209 ?_
  refine va_sld hex hb hX hbl hbA hS h_2 dl210 ?_
  rw [← ew2]
  refine lv_aload_n hex hb dl211 rfl (lv_at hl 0 rfl) ?_
  refine lv_iload_n hex hb dl212 rfl (lv_at hl 3 rfl) ?_
  refine lv_iconst (v := 3) hex hb dl213 (by decide) ?_
  refine lv_iadd hex hb dl214 ?_
  refine va_sld hex hb hX hbl hbA hS h_3 dl215 ?_
  rw [← ew3]
  refine lv_aload_n hex hb dl216 rfl (lv_at hl 0 rfl) ?_
  refine lv_iload_n hex hb dl217 rfl (lv_at hl 3 rfl) ?_
  refine lv_iconst (v := 4) hex hb dl218 (by decide) ?_
  refine lv_iadd hex hb dl219 ?_
  refine va_sld hex hb hX hbl hbA hS h_4 dl220 ?_
  rw [← ew4]
  refine lv_aload_n hex hb dl221 rfl (lv_at hl 0 rfl) ?_
  refine lv_iload_n hex hb dl222 rfl (lv_at hl 3 rfl) ?_
  refine lv_iconst (v := 5) hex hb dl223 (by decide) ?_
  refine lv_iadd hex hb dl224 ?_
  refine va_sld hex hb hX hbl hbA hS h_5 dl225 ?_
  rw [← ew5]
  refine W.eq (g2 := F0 m 226 ls (([jI w1.toInt, jI w2.toInt, jI w3.toInt, jI w4.toInt, jI w5.toInt].reverse ++ jR 0 :: []).map (mw_tr ad fm))) ?_ ?_
  · simp only [List.reverse_cons, List.reverse_nil, List.nil_append, List.cons_append, List.map_cons, List.map_nil, lq_tr, lq_trL]
    try rfl
  have hcall := hag n σ (w1.toInt) (w2.toInt) (w3.toInt) (w4.toInt) (w5.toInt) hn hI oS (in32_of _) (in32_of _) (in32_of _) (in32_of _) (in32_of _)
  refine lq_call hx0 mq119 (hlink := by decide +kernel) rfl rfl (by rw [lq_len]; decide) (Nat.le_of_ble_eq_true rfl) dl226 hl.1 hc1 hc2 oS (fun v hv => by
      simp only [List.mem_cons, List.not_mem_nil, or_false] at hv
      rcases hv with rfl | rfl | rfl | rfl | rfl <;> first | exact in32_of _ | exact in64_of _ | exact ⟨by decide, by decide⟩) hP hS hcall (fun r σ1 H1 locs1 hcall2 oS1 okr hP1 hS1 => ?_)
  clear hP hS
  have hP := hP1
  have hS := hS1
  have hr1 : ∃ z, r = some (jI z) := by
    obtain ⟨r2, s2, -, ⟨z, h1, -⟩, -⟩ := hcall2
    exact ⟨z, h1⟩
  obtain ⟨z, rfl⟩ := hr1
  refine W.eq (g2 := F0 m 229 ls [mw_tr ad fm (jI z)]) rfl ?_
  refine lv_aload_n hex hb dl229 rfl (lv_at hl 2 rfl) ?_
  refine lv_aload_n hex hb dl230 rfl (lv_at hl 0 rfl) ?_
  refine lv_iload_n hex hb dl231 rfl (lv_at hl 3 rfl) ?_
  refine lv_iconst (v := 1) hex hb dl232 (by decide) ?_
  refine lv_iadd hex hb dl233 ?_
  refine va_sld hex hb hX hbl hbA hS h_1 dl234 ?_
  rw [← ew1]
  refine lv_aload_n hex hb dl235 rfl (lv_at hl 0 rfl) ?_
  refine lv_iload_n hex hb dl236 rfl (lv_at hl 3 rfl) ?_
  refine lv_iconst (v := 2) hex hb dl237 (by decide) ?_
  refine lv_iadd hex hb dl238 ?_
  refine va_sld hex hb hX hbl hbA hS h_2 dl239 ?_
  rw [← ew2]
  refine lv_aload_n hex hb dl240 rfl (lv_at hl 0 rfl) ?_
  refine lv_iload_n hex hb dl241 rfl (lv_at hl 3 rfl) ?_
  refine lv_iconst (v := 3) hex hb dl242 (by decide) ?_
  refine lv_iadd hex hb dl243 ?_
  refine va_sld hex hb hX hbl hbA hS h_3 dl244 ?_
  rw [← ew3]
  refine lv_aload_n hex hb dl245 rfl (lv_at hl 0 rfl) ?_
  refine lv_iload_n hex hb dl246 rfl (lv_at hl 3 rfl) ?_
  refine lv_iconst (v := 4) hex hb dl247 (by decide) ?_
  refine lv_iadd hex hb dl248 ?_
  refine va_sld hex hb hX hbl hbA hS h_4 dl249 ?_
  rw [← ew4]
  refine lv_aload_n hex hb dl250 rfl (lv_at hl 0 rfl) ?_
  refine lv_iload_n hex hb dl251 rfl (lv_at hl 3 rfl) ?_
  refine lv_iconst (v := 5) hex hb dl252 (by decide) ?_
  refine lv_iadd hex hb dl253 ?_
  refine va_sld hex hb hX hbl hbA hS h_5 dl254 ?_
  rw [← ew5]
  refine W.eq (g2 := F0 m 255 ls (([jI w1.toInt, jI w2.toInt, jI w3.toInt, jI w4.toInt, jI w5.toInt].reverse ++ jR 100 :: [jI z]).map (mw_tr ad fm))) ?_ ?_
  · simp only [List.reverse_cons, List.reverse_nil, List.nil_append, List.cons_append, List.map_cons, List.map_nil, lq_tr, lq_trL]
    try rfl
  refine lq_call hx0 mq172 (hlink := by decide +kernel) rfl rfl (by rw [lq_len]; decide) (Nat.le_of_ble_eq_true rfl) dl255 hl.1 hc1 hc2 oS1 (fun v hv => by
      simp only [List.mem_cons, List.not_mem_nil, or_false] at hv
      rcases hv with rfl | rfl | rfl | rfl | rfl <;> first | exact in32_of _ | exact in64_of _ | exact ⟨by decide, by decide⟩) hP hS hcall2 (fun r σ2 H2 locs2 hq oS2 okr2 hP2 hS2 => ?_)
  obtain ⟨⟨z2, h1, rfl⟩, hI2⟩ := hq
  cases h1
  refine W.eq (g2 := F0 m 258 ls [.int (i32 z), .int (i32 z)]) rfl ?_
  exact lv_icmp_eq (tgt := 1488) hex hb dl258 (by decide) (fun _ => K σ2 H2 locs2 hI2 oS2 hP2 hS2) (fun q9 => absurd rfl q9)
set_option maxHeartbeats 4000000 in
theorem lq_c1 (hx : lq_Cx D ad cA fm p s m meth c b L xs) (hL : L ≤ 3072) {I : Nat → mw_S → Prop} (hag : ag_arcade I) {n i : Nat} {x3 : Int32} (ex : x3 = nI i) (hi : i + 6 ≤ L) (hn : n < 512) {σ : mw_S} (hI : I n σ) (oS : mw_okS σ) {H : Heap} {locs : List Loc} {ls : Array Slot} (hP : va_P D vwCl (mw_ws ad cA σ) H) (hS : va_S (mw_A ad s.heap.size) s.heap H locs) (hl : lv_has ls 4 (lq_lv ad b x3)) {cells slots : Nat} (hc1 : cells ≤ 600000) (hc2 : slots ≤ 7302250)
    (K : ∀ (σ' : mw_S) (H' : Heap) (locs' : List Loc), I (n + 1) σ' → mw_okS σ' → va_P D vwCl (mw_ws ad cA σ') H' → va_S (mw_A ad s.heap.size) s.heap H' locs' → W p l e room_1 s m #[Value.ref b] below meth c H' locs' cells slots Qm (F0 m 1488 ls [])) : W p l e room_1 s m #[Value.ref b] below meth c H locs cells slots Qm (F0 m 263 ls []) := by
  have hx0 := hx
  obtain ⟨⟨hex, hb, hr, hml, hown, hts, hX, hbl, hlocks, hgv⟩, hK, hCs, hfm, hinj, hlo⟩ := hx
  have hbA : ¬ mw_A ad s.heap.size b := fun q => by
    rcases q with ⟨k, h1, h2⟩ | q
    · have := hlo k h1
      omega
    · omega
  have h_1 : vp_in (x3 + 1) L := by rw [ex, show (1 : Int32) = nI 1 from rfl, nI_add]; exact vp_in_nI (by omega) (by omega)
  obtain ⟨w1, ew1⟩ : ∃ y : Int32, y = xs (x3 + 1).toNatClampNeg := ⟨_, rfl⟩
  refine lv_aload_n hex hb dl263 rfl (lv_at hl 1 rfl) ?_
  refine lv_aload_n hex hb dl264 rfl (lv_at hl 0 rfl) ?_
  refine lv_iload_n hex hb dl265 rfl (lv_at hl 3 rfl) ?_
  refine lv_iconst (v := 1) hex hb dl266 (by decide) ?_
  refine lv_iadd hex hb dl267 ?_
  refine va_sld hex hb hX hbl hbA hS h_1 dl268 ?_
  rw [← ew1]
  refine W.eq (g2 := F0 m 269 ls (([jI w1.toInt].reverse ++ jR 0 :: []).map (mw_tr ad fm))) ?_ ?_
  · simp only [List.reverse_cons, List.reverse_nil, List.nil_append, List.cons_append, List.map_cons, List.map_nil, lq_tr, lq_trL]
    try rfl
  have hcall := hag n σ (w1.toInt) hn hI oS (in32_of _)
  refine lq_call hx0 mq120 (hlink := by decide +kernel) rfl rfl (by rw [lq_len]; decide) (Nat.le_of_ble_eq_true rfl) dl269 hl.1 hc1 hc2 oS (fun v hv => by
      simp only [List.mem_cons, List.not_mem_nil, or_false] at hv
      rcases hv with rfl <;> first | exact in32_of _ | exact in64_of _ | exact ⟨by decide, by decide⟩) hP hS hcall (fun r σ1 H1 locs1 hcall2 oS1 okr hP1 hS1 => ?_)
  clear hP hS
  have hP := hP1
  have hS := hS1
  have hr1 : ∃ z, r = some (jI z) := by
    obtain ⟨r2, s2, -, ⟨z, h1, -⟩, -⟩ := hcall2
    exact ⟨z, h1⟩
  obtain ⟨z, rfl⟩ := hr1
  refine W.eq (g2 := F0 m 272 ls [mw_tr ad fm (jI z)]) rfl ?_
  refine lv_aload_n hex hb dl272 rfl (lv_at hl 2 rfl) ?_
  refine lv_aload_n hex hb dl273 rfl (lv_at hl 0 rfl) ?_
  refine lv_iload_n hex hb dl274 rfl (lv_at hl 3 rfl) ?_
  refine lv_iconst (v := 1) hex hb dl275 (by decide) ?_
  refine lv_iadd hex hb dl276 ?_
  refine va_sld hex hb hX hbl hbA hS h_1 dl277 ?_
  rw [← ew1]
  refine W.eq (g2 := F0 m 278 ls (([jI w1.toInt].reverse ++ jR 100 :: [jI z]).map (mw_tr ad fm))) ?_ ?_
  · simp only [List.reverse_cons, List.reverse_nil, List.nil_append, List.cons_append, List.map_cons, List.map_nil, lq_tr, lq_trL]
    try rfl
  refine lq_call hx0 mq194 (hlink := by decide +kernel) rfl rfl (by rw [lq_len]; decide) (Nat.le_of_ble_eq_true rfl) dl278 hl.1 hc1 hc2 oS1 (fun v hv => by
      simp only [List.mem_cons, List.not_mem_nil, or_false] at hv
      rcases hv with rfl <;> first | exact in32_of _ | exact in64_of _ | exact ⟨by decide, by decide⟩) hP hS hcall2 (fun r σ2 H2 locs2 hq oS2 okr2 hP2 hS2 => ?_)
  obtain ⟨⟨z2, h1, rfl⟩, hI2⟩ := hq
  cases h1
  refine W.eq (g2 := F0 m 281 ls [.int (i32 z), .int (i32 z)]) rfl ?_
  exact lv_icmp_eq (tgt := 1488) hex hb dl281 (by decide) (fun _ => K σ2 H2 locs2 hI2 oS2 hP2 hS2) (fun q9 => absurd rfl q9)
set_option maxHeartbeats 4000000 in
theorem lq_c2 (hx : lq_Cx D ad cA fm p s m meth c b L xs) (hL : L ≤ 3072) {I : Nat → mw_S → Prop} (hag : ag_fault I) {n i : Nat} {x3 : Int32} (ex : x3 = nI i) (hi : i + 6 ≤ L) (hn : n < 512) {σ : mw_S} (hI : I n σ) (oS : mw_okS σ) {H : Heap} {locs : List Loc} {ls : Array Slot} (hP : va_P D vwCl (mw_ws ad cA σ) H) (hS : va_S (mw_A ad s.heap.size) s.heap H locs) (hl : lv_has ls 4 (lq_lv ad b x3)) {cells slots : Nat} (hc1 : cells ≤ 600000) (hc2 : slots ≤ 7302250)
    (K : ∀ (σ' : mw_S) (H' : Heap) (locs' : List Loc), I (n + 1) σ' → mw_okS σ' → va_P D vwCl (mw_ws ad cA σ') H' → va_S (mw_A ad s.heap.size) s.heap H' locs' → W p l e room_1 s m #[Value.ref b] below meth c H' locs' cells slots Qm (F0 m 1488 ls [])) : W p l e room_1 s m #[Value.ref b] below meth c H locs cells slots Qm (F0 m 286 ls []) := by
  have hx0 := hx
  obtain ⟨⟨hex, hb, hr, hml, hown, hts, hX, hbl, hlocks, hgv⟩, hK, hCs, hfm, hinj, hlo⟩ := hx
  have hbA : ¬ mw_A ad s.heap.size b := fun q => by
    rcases q with ⟨k, h1, h2⟩ | q
    · have := hlo k h1
      omega
    · omega
  have h_1 : vp_in (x3 + 1) L := by rw [ex, show (1 : Int32) = nI 1 from rfl, nI_add]; exact vp_in_nI (by omega) (by omega)
  obtain ⟨w1, ew1⟩ : ∃ y : Int32, y = xs (x3 + 1).toNatClampNeg := ⟨_, rfl⟩
  refine lv_aload_n hex hb dl286 rfl (lv_at hl 1 rfl) ?_
  refine lv_aload_n hex hb dl287 rfl (lv_at hl 0 rfl) ?_
  refine lv_iload_n hex hb dl288 rfl (lv_at hl 3 rfl) ?_
  refine lv_iconst (v := 1) hex hb dl289 (by decide) ?_
  refine lv_iadd hex hb dl290 ?_
  refine va_sld hex hb hX hbl hbA hS h_1 dl291 ?_
  rw [← ew1]
  refine W.eq (g2 := F0 m 292 ls (([jI w1.toInt].reverse ++ jR 0 :: []).map (mw_tr ad fm))) ?_ ?_
  · simp only [List.reverse_cons, List.reverse_nil, List.nil_append, List.cons_append, List.map_cons, List.map_nil, lq_tr, lq_trL]
    try rfl
  have hcall := hag n σ (w1.toInt) hn hI oS (in32_of _)
  refine lq_call hx0 mq121 (hlink := by decide +kernel) rfl rfl (by rw [lq_len]; decide) (Nat.le_of_ble_eq_true rfl) dl292 hl.1 hc1 hc2 oS (fun v hv => by
      simp only [List.mem_cons, List.not_mem_nil, or_false] at hv
      rcases hv with rfl <;> first | exact in32_of _ | exact in64_of _ | exact ⟨by decide, by decide⟩) hP hS hcall (fun r σ1 H1 locs1 hcall2 oS1 okr hP1 hS1 => ?_)
  clear hP hS
  have hP := hP1
  have hS := hS1
  have hr1 : ∃ z, r = some (jI z) := by
    obtain ⟨r2, s2, -, ⟨z, h1, -⟩, -⟩ := hcall2
    exact ⟨z, h1⟩
  obtain ⟨z, rfl⟩ := hr1
  refine W.eq (g2 := F0 m 295 ls [mw_tr ad fm (jI z)]) rfl ?_
  refine lv_aload_n hex hb dl295 rfl (lv_at hl 2 rfl) ?_
  refine lv_aload_n hex hb dl296 rfl (lv_at hl 0 rfl) ?_
  refine lv_iload_n hex hb dl297 rfl (lv_at hl 3 rfl) ?_
  refine lv_iconst (v := 1) hex hb dl298 (by decide) ?_
  refine lv_iadd hex hb dl299 ?_
  refine va_sld hex hb hX hbl hbA hS h_1 dl300 ?_
  rw [← ew1]
  refine W.eq (g2 := F0 m 301 ls (([jI w1.toInt].reverse ++ jR 100 :: [jI z]).map (mw_tr ad fm))) ?_ ?_
  · simp only [List.reverse_cons, List.reverse_nil, List.nil_append, List.cons_append, List.map_cons, List.map_nil, lq_tr, lq_trL]
    try rfl
  refine lq_call hx0 mq195 (hlink := by decide +kernel) rfl rfl (by rw [lq_len]; decide) (Nat.le_of_ble_eq_true rfl) dl301 hl.1 hc1 hc2 oS1 (fun v hv => by
      simp only [List.mem_cons, List.not_mem_nil, or_false] at hv
      rcases hv with rfl <;> first | exact in32_of _ | exact in64_of _ | exact ⟨by decide, by decide⟩) hP hS hcall2 (fun r σ2 H2 locs2 hq oS2 okr2 hP2 hS2 => ?_)
  obtain ⟨⟨z2, h1, rfl⟩, hI2⟩ := hq
  cases h1
  refine W.eq (g2 := F0 m 304 ls [.int (i32 z), .int (i32 z)]) rfl ?_
  exact lv_icmp_eq (tgt := 1488) hex hb dl304 (by decide) (fun _ => K σ2 H2 locs2 hI2 oS2 hP2 hS2) (fun q9 => absurd rfl q9)
set_option maxHeartbeats 4000000 in
theorem lq_c3 (hx : lq_Cx D ad cA fm p s m meth c b L xs) (hL : L ≤ 3072) {I : Nat → mw_S → Prop} (hag : ag_person I) {n i : Nat} {x3 : Int32} (ex : x3 = nI i) (hi : i + 6 ≤ L) (hn : n < 512) {σ : mw_S} (hI : I n σ) (oS : mw_okS σ) {H : Heap} {locs : List Loc} {ls : Array Slot} (hP : va_P D vwCl (mw_ws ad cA σ) H) (hS : va_S (mw_A ad s.heap.size) s.heap H locs) (hl : lv_has ls 4 (lq_lv ad b x3)) {cells slots : Nat} (hc1 : cells ≤ 600000) (hc2 : slots ≤ 7302250)
    (K : ∀ (σ' : mw_S) (H' : Heap) (locs' : List Loc), I (n + 1) σ' → mw_okS σ' → va_P D vwCl (mw_ws ad cA σ') H' → va_S (mw_A ad s.heap.size) s.heap H' locs' → W p l e room_1 s m #[Value.ref b] below meth c H' locs' cells slots Qm (F0 m 1488 ls [])) : W p l e room_1 s m #[Value.ref b] below meth c H locs cells slots Qm (F0 m 309 ls []) := by
  have hx0 := hx
  obtain ⟨⟨hex, hb, hr, hml, hown, hts, hX, hbl, hlocks, hgv⟩, hK, hCs, hfm, hinj, hlo⟩ := hx
  have hbA : ¬ mw_A ad s.heap.size b := fun q => by
    rcases q with ⟨k, h1, h2⟩ | q
    · have := hlo k h1
      omega
    · omega
  have h_1 : vp_in (x3 + 1) L := by rw [ex, show (1 : Int32) = nI 1 from rfl, nI_add]; exact vp_in_nI (by omega) (by omega)
  obtain ⟨w1, ew1⟩ : ∃ y : Int32, y = xs (x3 + 1).toNatClampNeg := ⟨_, rfl⟩
  have h_2 : vp_in (x3 + 2) L := by rw [ex, show (2 : Int32) = nI 2 from rfl, nI_add]; exact vp_in_nI (by omega) (by omega)
  obtain ⟨w2, ew2⟩ : ∃ y : Int32, y = xs (x3 + 2).toNatClampNeg := ⟨_, rfl⟩
  refine lv_aload_n hex hb dl309 rfl (lv_at hl 1 rfl) ?_
  refine lv_aload_n hex hb dl310 rfl (lv_at hl 0 rfl) ?_
  refine lv_iload_n hex hb dl311 rfl (lv_at hl 3 rfl) ?_
  refine lv_iconst (v := 1) hex hb dl312 (by decide) ?_
  refine lv_iadd hex hb dl313 ?_
  refine va_sld hex hb hX hbl hbA hS h_1 dl314 ?_
  rw [← ew1]
  refine lv_aload_n hex hb dl315 rfl (lv_at hl 0 rfl) ?_
  refine lv_iload_n hex hb dl316 rfl (lv_at hl 3 rfl) ?_
  refine lv_iconst (v := 2) hex hb dl317 (by decide) ?_
  refine lv_iadd hex hb dl318 ?_
  refine va_sld hex hb hX hbl hbA hS h_2 dl319 ?_
  rw [← ew2]
  refine W.eq (g2 := F0 m 320 ls (([jI w1.toInt, jI w2.toInt].reverse ++ jR 0 :: []).map (mw_tr ad fm))) ?_ ?_
  · simp only [List.reverse_cons, List.reverse_nil, List.nil_append, List.cons_append, List.map_cons, List.map_nil, lq_tr, lq_trL]
    try rfl
  have hcall := hag n σ (w1.toInt) (w2.toInt) hn hI oS (in32_of _) (in32_of _)
  refine lq_call hx0 mq122 (hlink := by decide +kernel) rfl rfl (by rw [lq_len]; decide) (Nat.le_of_ble_eq_true rfl) dl320 hl.1 hc1 hc2 oS (fun v hv => by
      simp only [List.mem_cons, List.not_mem_nil, or_false] at hv
      rcases hv with rfl | rfl <;> first | exact in32_of _ | exact in64_of _ | exact ⟨by decide, by decide⟩) hP hS hcall (fun r σ1 H1 locs1 hcall2 oS1 okr hP1 hS1 => ?_)
  clear hP hS
  have hP := hP1
  have hS := hS1
  have hr1 : ∃ z, r = some (jI z) := by
    obtain ⟨r2, s2, -, ⟨z, h1, -⟩, -⟩ := hcall2
    exact ⟨z, h1⟩
  obtain ⟨z, rfl⟩ := hr1
  refine W.eq (g2 := F0 m 323 ls [mw_tr ad fm (jI z)]) rfl ?_
  refine lv_aload_n hex hb dl323 rfl (lv_at hl 2 rfl) ?_
  refine lv_aload_n hex hb dl324 rfl (lv_at hl 0 rfl) ?_
  refine lv_iload_n hex hb dl325 rfl (lv_at hl 3 rfl) ?_
  refine lv_iconst (v := 1) hex hb dl326 (by decide) ?_
  refine lv_iadd hex hb dl327 ?_
  refine va_sld hex hb hX hbl hbA hS h_1 dl328 ?_
  rw [← ew1]
  refine lv_aload_n hex hb dl329 rfl (lv_at hl 0 rfl) ?_
  refine lv_iload_n hex hb dl330 rfl (lv_at hl 3 rfl) ?_
  refine lv_iconst (v := 2) hex hb dl331 (by decide) ?_
  refine lv_iadd hex hb dl332 ?_
  refine va_sld hex hb hX hbl hbA hS h_2 dl333 ?_
  rw [← ew2]
  refine W.eq (g2 := F0 m 334 ls (([jI w1.toInt, jI w2.toInt].reverse ++ jR 100 :: [jI z]).map (mw_tr ad fm))) ?_ ?_
  · simp only [List.reverse_cons, List.reverse_nil, List.nil_append, List.cons_append, List.map_cons, List.map_nil, lq_tr, lq_trL]
    try rfl
  refine lq_call hx0 mq201 (hlink := by decide +kernel) rfl rfl (by rw [lq_len]; decide) (Nat.le_of_ble_eq_true rfl) dl334 hl.1 hc1 hc2 oS1 (fun v hv => by
      simp only [List.mem_cons, List.not_mem_nil, or_false] at hv
      rcases hv with rfl | rfl <;> first | exact in32_of _ | exact in64_of _ | exact ⟨by decide, by decide⟩) hP hS hcall2 (fun r σ2 H2 locs2 hq oS2 okr2 hP2 hS2 => ?_)
  obtain ⟨⟨z2, h1, rfl⟩, hI2⟩ := hq
  cases h1
  refine W.eq (g2 := F0 m 337 ls [.int (i32 z), .int (i32 z)]) rfl ?_
  exact lv_icmp_eq (tgt := 1488) hex hb dl337 (by decide) (fun _ => K σ2 H2 locs2 hI2 oS2 hP2 hS2) (fun q9 => absurd rfl q9)
set_option maxHeartbeats 4000000 in
theorem lq_c4 (hx : lq_Cx D ad cA fm p s m meth c b L xs) (hL : L ≤ 3072) {I : Nat → mw_S → Prop} (hag : ag_copy I) {n i : Nat} {x3 : Int32} (ex : x3 = nI i) (hi : i + 6 ≤ L) (hn : n < 512) {σ : mw_S} (hI : I n σ) (oS : mw_okS σ) {H : Heap} {locs : List Loc} {ls : Array Slot} (hP : va_P D vwCl (mw_ws ad cA σ) H) (hS : va_S (mw_A ad s.heap.size) s.heap H locs) (hl : lv_has ls 4 (lq_lv ad b x3)) {cells slots : Nat} (hc1 : cells ≤ 600000) (hc2 : slots ≤ 7302250)
    (K : ∀ (σ' : mw_S) (H' : Heap) (locs' : List Loc), I (n + 1) σ' → mw_okS σ' → va_P D vwCl (mw_ws ad cA σ') H' → va_S (mw_A ad s.heap.size) s.heap H' locs' → W p l e room_1 s m #[Value.ref b] below meth c H' locs' cells slots Qm (F0 m 1488 ls [])) : W p l e room_1 s m #[Value.ref b] below meth c H locs cells slots Qm (F0 m 342 ls []) := by
  have hx0 := hx
  obtain ⟨⟨hex, hb, hr, hml, hown, hts, hX, hbl, hlocks, hgv⟩, hK, hCs, hfm, hinj, hlo⟩ := hx
  have hbA : ¬ mw_A ad s.heap.size b := fun q => by
    rcases q with ⟨k, h1, h2⟩ | q
    · have := hlo k h1
      omega
    · omega
  have h_1 : vp_in (x3 + 1) L := by rw [ex, show (1 : Int32) = nI 1 from rfl, nI_add]; exact vp_in_nI (by omega) (by omega)
  obtain ⟨w1, ew1⟩ : ∃ y : Int32, y = xs (x3 + 1).toNatClampNeg := ⟨_, rfl⟩
  have h_2 : vp_in (x3 + 2) L := by rw [ex, show (2 : Int32) = nI 2 from rfl, nI_add]; exact vp_in_nI (by omega) (by omega)
  obtain ⟨w2, ew2⟩ : ∃ y : Int32, y = xs (x3 + 2).toNatClampNeg := ⟨_, rfl⟩
  refine lv_aload_n hex hb dl342 rfl (lv_at hl 1 rfl) ?_
  refine lv_aload_n hex hb dl343 rfl (lv_at hl 0 rfl) ?_
  refine lv_iload_n hex hb dl344 rfl (lv_at hl 3 rfl) ?_
  refine lv_iconst (v := 1) hex hb dl345 (by decide) ?_
  refine lv_iadd hex hb dl346 ?_
  refine va_sld hex hb hX hbl hbA hS h_1 dl347 ?_
  rw [← ew1]
  refine lv_aload_n hex hb dl348 rfl (lv_at hl 0 rfl) ?_
  refine lv_iload_n hex hb dl349 rfl (lv_at hl 3 rfl) ?_
  refine lv_iconst (v := 2) hex hb dl350 (by decide) ?_
  refine lv_iadd hex hb dl351 ?_
  refine va_sld hex hb hX hbl hbA hS h_2 dl352 ?_
  rw [← ew2]
  refine W.eq (g2 := F0 m 353 ls (([jI w1.toInt, jI w2.toInt].reverse ++ jR 0 :: []).map (mw_tr ad fm))) ?_ ?_
  · simp only [List.reverse_cons, List.reverse_nil, List.nil_append, List.cons_append, List.map_cons, List.map_nil, lq_tr, lq_trL]
    try rfl
  have hcall := hag n σ (w1.toInt) (w2.toInt) hn hI oS (in32_of _) (in32_of _)
  refine lq_call hx0 mq123 (hlink := by decide +kernel) rfl rfl (by rw [lq_len]; decide) (Nat.le_of_ble_eq_true rfl) dl353 hl.1 hc1 hc2 oS (fun v hv => by
      simp only [List.mem_cons, List.not_mem_nil, or_false] at hv
      rcases hv with rfl | rfl <;> first | exact in32_of _ | exact in64_of _ | exact ⟨by decide, by decide⟩) hP hS hcall (fun r σ1 H1 locs1 hcall2 oS1 okr hP1 hS1 => ?_)
  clear hP hS
  have hP := hP1
  have hS := hS1
  have hr1 : ∃ z, r = some (jI z) := by
    obtain ⟨r2, s2, -, ⟨z, h1, -⟩, -⟩ := hcall2
    exact ⟨z, h1⟩
  obtain ⟨z, rfl⟩ := hr1
  refine W.eq (g2 := F0 m 356 ls [mw_tr ad fm (jI z)]) rfl ?_
  refine lv_aload_n hex hb dl356 rfl (lv_at hl 2 rfl) ?_
  refine lv_aload_n hex hb dl357 rfl (lv_at hl 0 rfl) ?_
  refine lv_iload_n hex hb dl358 rfl (lv_at hl 3 rfl) ?_
  refine lv_iconst (v := 1) hex hb dl359 (by decide) ?_
  refine lv_iadd hex hb dl360 ?_
  refine va_sld hex hb hX hbl hbA hS h_1 dl361 ?_
  rw [← ew1]
  refine lv_aload_n hex hb dl362 rfl (lv_at hl 0 rfl) ?_
  refine lv_iload_n hex hb dl363 rfl (lv_at hl 3 rfl) ?_
  refine lv_iconst (v := 2) hex hb dl364 (by decide) ?_
  refine lv_iadd hex hb dl365 ?_
  refine va_sld hex hb hX hbl hbA hS h_2 dl366 ?_
  rw [← ew2]
  refine W.eq (g2 := F0 m 367 ls (([jI w1.toInt, jI w2.toInt].reverse ++ jR 100 :: [jI z]).map (mw_tr ad fm))) ?_ ?_
  · simp only [List.reverse_cons, List.reverse_nil, List.nil_append, List.cons_append, List.map_cons, List.map_nil, lq_tr, lq_trL]
    try rfl
  refine lq_call hx0 mq202 (hlink := by decide +kernel) rfl rfl (by rw [lq_len]; decide) (Nat.le_of_ble_eq_true rfl) dl367 hl.1 hc1 hc2 oS1 (fun v hv => by
      simp only [List.mem_cons, List.not_mem_nil, or_false] at hv
      rcases hv with rfl | rfl <;> first | exact in32_of _ | exact in64_of _ | exact ⟨by decide, by decide⟩) hP hS hcall2 (fun r σ2 H2 locs2 hq oS2 okr2 hP2 hS2 => ?_)
  obtain ⟨⟨z2, h1, rfl⟩, hI2⟩ := hq
  cases h1
  refine W.eq (g2 := F0 m 370 ls [.int (i32 z), .int (i32 z)]) rfl ?_
  exact lv_icmp_eq (tgt := 1488) hex hb dl370 (by decide) (fun _ => K σ2 H2 locs2 hI2 oS2 hP2 hS2) (fun q9 => absurd rfl q9)
set_option maxHeartbeats 4000000 in
theorem lq_c5 (hx : lq_Cx D ad cA fm p s m meth c b L xs) (hL : L ≤ 3072) {I : Nat → mw_S → Prop} (hag : ag_thing I) {n i : Nat} {x3 : Int32} (ex : x3 = nI i) (hi : i + 6 ≤ L) (hn : n < 512) {σ : mw_S} (hI : I n σ) (oS : mw_okS σ) {H : Heap} {locs : List Loc} {ls : Array Slot} (hP : va_P D vwCl (mw_ws ad cA σ) H) (hS : va_S (mw_A ad s.heap.size) s.heap H locs) (hl : lv_has ls 4 (lq_lv ad b x3)) {cells slots : Nat} (hc1 : cells ≤ 600000) (hc2 : slots ≤ 7302250)
    (K : ∀ (σ' : mw_S) (H' : Heap) (locs' : List Loc), I (n + 1) σ' → mw_okS σ' → va_P D vwCl (mw_ws ad cA σ') H' → va_S (mw_A ad s.heap.size) s.heap H' locs' → W p l e room_1 s m #[Value.ref b] below meth c H' locs' cells slots Qm (F0 m 1488 ls [])) : W p l e room_1 s m #[Value.ref b] below meth c H locs cells slots Qm (F0 m 375 ls []) := by
  have hx0 := hx
  obtain ⟨⟨hex, hb, hr, hml, hown, hts, hX, hbl, hlocks, hgv⟩, hK, hCs, hfm, hinj, hlo⟩ := hx
  have hbA : ¬ mw_A ad s.heap.size b := fun q => by
    rcases q with ⟨k, h1, h2⟩ | q
    · have := hlo k h1
      omega
    · omega
  have h_1 : vp_in (x3 + 1) L := by rw [ex, show (1 : Int32) = nI 1 from rfl, nI_add]; exact vp_in_nI (by omega) (by omega)
  obtain ⟨w1, ew1⟩ : ∃ y : Int32, y = xs (x3 + 1).toNatClampNeg := ⟨_, rfl⟩
  refine lv_aload_n hex hb dl375 rfl (lv_at hl 1 rfl) ?_
  refine lv_aload_n hex hb dl376 rfl (lv_at hl 0 rfl) ?_
  refine lv_iload_n hex hb dl377 rfl (lv_at hl 3 rfl) ?_
  refine lv_iconst (v := 1) hex hb dl378 (by decide) ?_
  refine lv_iadd hex hb dl379 ?_
  refine va_sld hex hb hX hbl hbA hS h_1 dl380 ?_
  rw [← ew1]
  refine W.eq (g2 := F0 m 381 ls (([jI w1.toInt].reverse ++ jR 0 :: []).map (mw_tr ad fm))) ?_ ?_
  · simp only [List.reverse_cons, List.reverse_nil, List.nil_append, List.cons_append, List.map_cons, List.map_nil, lq_tr, lq_trL]
    try rfl
  have hcall := hag n σ (w1.toInt) hn hI oS (in32_of _)
  refine lq_call hx0 mq124 (hlink := by decide +kernel) rfl rfl (by rw [lq_len]; decide) (Nat.le_of_ble_eq_true rfl) dl381 hl.1 hc1 hc2 oS (fun v hv => by
      simp only [List.mem_cons, List.not_mem_nil, or_false] at hv
      rcases hv with rfl <;> first | exact in32_of _ | exact in64_of _ | exact ⟨by decide, by decide⟩) hP hS hcall (fun r σ1 H1 locs1 hcall2 oS1 okr hP1 hS1 => ?_)
  clear hP hS
  have hP := hP1
  have hS := hS1
  have hr1 : ∃ z, r = some (jI z) := by
    obtain ⟨r2, s2, -, ⟨z, h1, -⟩, -⟩ := hcall2
    exact ⟨z, h1⟩
  obtain ⟨z, rfl⟩ := hr1
  refine W.eq (g2 := F0 m 384 ls [mw_tr ad fm (jI z)]) rfl ?_
  refine lv_aload_n hex hb dl384 rfl (lv_at hl 2 rfl) ?_
  refine lv_aload_n hex hb dl385 rfl (lv_at hl 0 rfl) ?_
  refine lv_iload_n hex hb dl386 rfl (lv_at hl 3 rfl) ?_
  refine lv_iconst (v := 1) hex hb dl387 (by decide) ?_
  refine lv_iadd hex hb dl388 ?_
  refine va_sld hex hb hX hbl hbA hS h_1 dl389 ?_
  rw [← ew1]
  refine W.eq (g2 := F0 m 390 ls (([jI w1.toInt].reverse ++ jR 100 :: [jI z]).map (mw_tr ad fm))) ?_ ?_
  · simp only [List.reverse_cons, List.reverse_nil, List.nil_append, List.cons_append, List.map_cons, List.map_nil, lq_tr, lq_trL]
    try rfl
  refine lq_call hx0 mq203 (hlink := by decide +kernel) rfl rfl (by rw [lq_len]; decide) (Nat.le_of_ble_eq_true rfl) dl390 hl.1 hc1 hc2 oS1 (fun v hv => by
      simp only [List.mem_cons, List.not_mem_nil, or_false] at hv
      rcases hv with rfl <;> first | exact in32_of _ | exact in64_of _ | exact ⟨by decide, by decide⟩) hP hS hcall2 (fun r σ2 H2 locs2 hq oS2 okr2 hP2 hS2 => ?_)
  obtain ⟨⟨z2, h1, rfl⟩, hI2⟩ := hq
  cases h1
  refine W.eq (g2 := F0 m 393 ls [.int (i32 z), .int (i32 z)]) rfl ?_
  exact lv_icmp_eq (tgt := 1488) hex hb dl393 (by decide) (fun _ => K σ2 H2 locs2 hI2 oS2 hP2 hS2) (fun q9 => absurd rfl q9)
set_option maxHeartbeats 4000000 in
theorem lq_c6 (hx : lq_Cx D ad cA fm p s m meth c b L xs) (hL : L ≤ 3072) {I : Nat → mw_S → Prop} (hag : ag_can I) {n i : Nat} {x3 : Int32} (ex : x3 = nI i) (hi : i + 6 ≤ L) (hn : n < 512) {σ : mw_S} (hI : I n σ) (oS : mw_okS σ) {H : Heap} {locs : List Loc} {ls : Array Slot} (hP : va_P D vwCl (mw_ws ad cA σ) H) (hS : va_S (mw_A ad s.heap.size) s.heap H locs) (hl : lv_has ls 4 (lq_lv ad b x3)) {cells slots : Nat} (hc1 : cells ≤ 600000) (hc2 : slots ≤ 7302250)
    (K : ∀ (σ' : mw_S) (H' : Heap) (locs' : List Loc), I (n + 1) σ' → mw_okS σ' → va_P D vwCl (mw_ws ad cA σ') H' → va_S (mw_A ad s.heap.size) s.heap H' locs' → W p l e room_1 s m #[Value.ref b] below meth c H' locs' cells slots Qm (F0 m 1488 ls [])) : W p l e room_1 s m #[Value.ref b] below meth c H locs cells slots Qm (F0 m 398 ls []) := by
  have hx0 := hx
  obtain ⟨⟨hex, hb, hr, hml, hown, hts, hX, hbl, hlocks, hgv⟩, hK, hCs, hfm, hinj, hlo⟩ := hx
  have hbA : ¬ mw_A ad s.heap.size b := fun q => by
    rcases q with ⟨k, h1, h2⟩ | q
    · have := hlo k h1
      omega
    · omega
  have h_1 : vp_in (x3 + 1) L := by rw [ex, show (1 : Int32) = nI 1 from rfl, nI_add]; exact vp_in_nI (by omega) (by omega)
  obtain ⟨w1, ew1⟩ : ∃ y : Int32, y = xs (x3 + 1).toNatClampNeg := ⟨_, rfl⟩
  have h_2 : vp_in (x3 + 2) L := by rw [ex, show (2 : Int32) = nI 2 from rfl, nI_add]; exact vp_in_nI (by omega) (by omega)
  obtain ⟨w2, ew2⟩ : ∃ y : Int32, y = xs (x3 + 2).toNatClampNeg := ⟨_, rfl⟩
  refine lv_aload_n hex hb dl398 rfl (lv_at hl 1 rfl) ?_
  refine lv_aload_n hex hb dl399 rfl (lv_at hl 0 rfl) ?_
  refine lv_iload_n hex hb dl400 rfl (lv_at hl 3 rfl) ?_
  refine lv_iconst (v := 1) hex hb dl401 (by decide) ?_
  refine lv_iadd hex hb dl402 ?_
  refine va_sld hex hb hX hbl hbA hS h_1 dl403 ?_
  rw [← ew1]
  refine lv_aload_n hex hb dl404 rfl (lv_at hl 0 rfl) ?_
  refine lv_iload_n hex hb dl405 rfl (lv_at hl 3 rfl) ?_
  refine lv_iconst (v := 2) hex hb dl406 (by decide) ?_
  refine lv_iadd hex hb dl407 ?_
  refine va_sld hex hb hX hbl hbA hS h_2 dl408 ?_
  rw [← ew2]
  refine W.eq (g2 := F0 m 409 ls (([jI w1.toInt, jI w2.toInt].reverse ++ jR 0 :: []).map (mw_tr ad fm))) ?_ ?_
  · simp only [List.reverse_cons, List.reverse_nil, List.nil_append, List.cons_append, List.map_cons, List.map_nil, lq_tr, lq_trL]
    try rfl
  have hcall := hag n σ (w1.toInt) (w2.toInt) hn hI oS (in32_of _) (in32_of _)
  refine lq_call hx0 mq125 (hlink := by decide +kernel) rfl rfl (by rw [lq_len]; decide) (Nat.le_of_ble_eq_true rfl) dl409 hl.1 hc1 hc2 oS (fun v hv => by
      simp only [List.mem_cons, List.not_mem_nil, or_false] at hv
      rcases hv with rfl | rfl <;> first | exact in32_of _ | exact in64_of _ | exact ⟨by decide, by decide⟩) hP hS hcall (fun r σ1 H1 locs1 hcall2 oS1 okr hP1 hS1 => ?_)
  clear hP hS
  have hP := hP1
  have hS := hS1
  have hr1 : ∃ z, r = some (jI z) := by
    obtain ⟨r2, s2, -, ⟨z, h1, -⟩, -⟩ := hcall2
    exact ⟨z, h1⟩
  obtain ⟨z, rfl⟩ := hr1
  refine W.eq (g2 := F0 m 412 ls [mw_tr ad fm (jI z)]) rfl ?_
  refine lv_aload_n hex hb dl412 rfl (lv_at hl 2 rfl) ?_
  refine lv_aload_n hex hb dl413 rfl (lv_at hl 0 rfl) ?_
  refine lv_iload_n hex hb dl414 rfl (lv_at hl 3 rfl) ?_
  refine lv_iconst (v := 1) hex hb dl415 (by decide) ?_
  refine lv_iadd hex hb dl416 ?_
  refine va_sld hex hb hX hbl hbA hS h_1 dl417 ?_
  rw [← ew1]
  refine lv_aload_n hex hb dl418 rfl (lv_at hl 0 rfl) ?_
  refine lv_iload_n hex hb dl419 rfl (lv_at hl 3 rfl) ?_
  refine lv_iconst (v := 2) hex hb dl420 (by decide) ?_
  refine lv_iadd hex hb dl421 ?_
  refine va_sld hex hb hX hbl hbA hS h_2 dl422 ?_
  rw [← ew2]
  refine W.eq (g2 := F0 m 423 ls (([jI w1.toInt, jI w2.toInt].reverse ++ jR 100 :: [jI z]).map (mw_tr ad fm))) ?_ ?_
  · simp only [List.reverse_cons, List.reverse_nil, List.nil_append, List.cons_append, List.map_cons, List.map_nil, lq_tr, lq_trL]
    try rfl
  refine lq_call hx0 mq206 (hlink := by decide +kernel) rfl rfl (by rw [lq_len]; decide) (Nat.le_of_ble_eq_true rfl) dl423 hl.1 hc1 hc2 oS1 (fun v hv => by
      simp only [List.mem_cons, List.not_mem_nil, or_false] at hv
      rcases hv with rfl | rfl <;> first | exact in32_of _ | exact in64_of _ | exact ⟨by decide, by decide⟩) hP hS hcall2 (fun r σ2 H2 locs2 hq oS2 okr2 hP2 hS2 => ?_)
  obtain ⟨⟨z2, h1, rfl⟩, hI2⟩ := hq
  cases h1
  refine W.eq (g2 := F0 m 426 ls [.int (i32 z), .int (i32 z)]) rfl ?_
  exact lv_icmp_eq (tgt := 1488) hex hb dl426 (by decide) (fun _ => K σ2 H2 locs2 hI2 oS2 hP2 hS2) (fun q9 => absurd rfl q9)
set_option maxHeartbeats 4000000 in
theorem lq_c7 (hx : lq_Cx D ad cA fm p s m meth c b L xs) (hL : L ≤ 3072) {I : Nat → mw_S → Prop} (hag : ag_would I) {n i : Nat} {x3 : Int32} (ex : x3 = nI i) (hi : i + 6 ≤ L) (hn : n < 512) {σ : mw_S} (hI : I n σ) (oS : mw_okS σ) {H : Heap} {locs : List Loc} {ls : Array Slot} (hP : va_P D vwCl (mw_ws ad cA σ) H) (hS : va_S (mw_A ad s.heap.size) s.heap H locs) (hl : lv_has ls 4 (lq_lv ad b x3)) {cells slots : Nat} (hc1 : cells ≤ 600000) (hc2 : slots ≤ 7302250)
    (K : ∀ (σ' : mw_S) (H' : Heap) (locs' : List Loc), I (n + 1) σ' → mw_okS σ' → va_P D vwCl (mw_ws ad cA σ') H' → va_S (mw_A ad s.heap.size) s.heap H' locs' → W p l e room_1 s m #[Value.ref b] below meth c H' locs' cells slots Qm (F0 m 1488 ls [])) : W p l e room_1 s m #[Value.ref b] below meth c H locs cells slots Qm (F0 m 431 ls []) := by
  have hx0 := hx
  obtain ⟨⟨hex, hb, hr, hml, hown, hts, hX, hbl, hlocks, hgv⟩, hK, hCs, hfm, hinj, hlo⟩ := hx
  have hbA : ¬ mw_A ad s.heap.size b := fun q => by
    rcases q with ⟨k, h1, h2⟩ | q
    · have := hlo k h1
      omega
    · omega
  have h_1 : vp_in (x3 + 1) L := by rw [ex, show (1 : Int32) = nI 1 from rfl, nI_add]; exact vp_in_nI (by omega) (by omega)
  obtain ⟨w1, ew1⟩ : ∃ y : Int32, y = xs (x3 + 1).toNatClampNeg := ⟨_, rfl⟩
  have h_2 : vp_in (x3 + 2) L := by rw [ex, show (2 : Int32) = nI 2 from rfl, nI_add]; exact vp_in_nI (by omega) (by omega)
  obtain ⟨w2, ew2⟩ : ∃ y : Int32, y = xs (x3 + 2).toNatClampNeg := ⟨_, rfl⟩
  refine lv_aload_n hex hb dl431 rfl (lv_at hl 1 rfl) ?_
  refine lv_aload_n hex hb dl432 rfl (lv_at hl 0 rfl) ?_
  refine lv_iload_n hex hb dl433 rfl (lv_at hl 3 rfl) ?_
  refine lv_iconst (v := 1) hex hb dl434 (by decide) ?_
  refine lv_iadd hex hb dl435 ?_
  refine va_sld hex hb hX hbl hbA hS h_1 dl436 ?_
  rw [← ew1]
  refine lv_aload_n hex hb dl437 rfl (lv_at hl 0 rfl) ?_
  refine lv_iload_n hex hb dl438 rfl (lv_at hl 3 rfl) ?_
  refine lv_iconst (v := 2) hex hb dl439 (by decide) ?_
  refine lv_iadd hex hb dl440 ?_
  refine va_sld hex hb hX hbl hbA hS h_2 dl441 ?_
  rw [← ew2]
  refine W.eq (g2 := F0 m 442 ls (([jI w1.toInt, jI w2.toInt].reverse ++ jR 0 :: []).map (mw_tr ad fm))) ?_ ?_
  · simp only [List.reverse_cons, List.reverse_nil, List.nil_append, List.cons_append, List.map_cons, List.map_nil, lq_tr, lq_trL]
    try rfl
  have hcall := hag n σ (w1.toInt) (w2.toInt) hn hI oS (in32_of _) (in32_of _)
  refine lq_call hx0 mq126 (hlink := by decide +kernel) rfl rfl (by rw [lq_len]; decide) (Nat.le_of_ble_eq_true rfl) dl442 hl.1 hc1 hc2 oS (fun v hv => by
      simp only [List.mem_cons, List.not_mem_nil, or_false] at hv
      rcases hv with rfl | rfl <;> first | exact in32_of _ | exact in64_of _ | exact ⟨by decide, by decide⟩) hP hS hcall (fun r σ1 H1 locs1 hcall2 oS1 okr hP1 hS1 => ?_)
  clear hP hS
  have hP := hP1
  have hS := hS1
  have hr1 : ∃ z, r = some (jI z) := by
    obtain ⟨r2, s2, -, ⟨z, h1, -⟩, -⟩ := hcall2
    exact ⟨z, h1⟩
  obtain ⟨z, rfl⟩ := hr1
  refine W.eq (g2 := F0 m 445 ls [mw_tr ad fm (jI z)]) rfl ?_
  refine lv_aload_n hex hb dl445 rfl (lv_at hl 2 rfl) ?_
  refine lv_aload_n hex hb dl446 rfl (lv_at hl 0 rfl) ?_
  refine lv_iload_n hex hb dl447 rfl (lv_at hl 3 rfl) ?_
  refine lv_iconst (v := 1) hex hb dl448 (by decide) ?_
  refine lv_iadd hex hb dl449 ?_
  refine va_sld hex hb hX hbl hbA hS h_1 dl450 ?_
  rw [← ew1]
  refine lv_aload_n hex hb dl451 rfl (lv_at hl 0 rfl) ?_
  refine lv_iload_n hex hb dl452 rfl (lv_at hl 3 rfl) ?_
  refine lv_iconst (v := 2) hex hb dl453 (by decide) ?_
  refine lv_iadd hex hb dl454 ?_
  refine va_sld hex hb hX hbl hbA hS h_2 dl455 ?_
  rw [← ew2]
  refine W.eq (g2 := F0 m 456 ls (([jI w1.toInt, jI w2.toInt].reverse ++ jR 100 :: [jI z]).map (mw_tr ad fm))) ?_ ?_
  · simp only [List.reverse_cons, List.reverse_nil, List.nil_append, List.cons_append, List.map_cons, List.map_nil, lq_tr, lq_trL]
    try rfl
  refine lq_call hx0 mq220 (hlink := by decide +kernel) rfl rfl (by rw [lq_len]; decide) (Nat.le_of_ble_eq_true rfl) dl456 hl.1 hc1 hc2 oS1 (fun v hv => by
      simp only [List.mem_cons, List.not_mem_nil, or_false] at hv
      rcases hv with rfl | rfl <;> first | exact in32_of _ | exact in64_of _ | exact ⟨by decide, by decide⟩) hP hS hcall2 (fun r σ2 H2 locs2 hq oS2 okr2 hP2 hS2 => ?_)
  obtain ⟨⟨z2, h1, rfl⟩, hI2⟩ := hq
  cases h1
  refine W.eq (g2 := F0 m 459 ls [.int (i32 z), .int (i32 z)]) rfl ?_
  exact lv_icmp_eq (tgt := 1488) hex hb dl459 (by decide) (fun _ => K σ2 H2 locs2 hI2 oS2 hP2 hS2) (fun q9 => absurd rfl q9)
set_option maxHeartbeats 4000000 in
theorem lq_c8 (hx : lq_Cx D ad cA fm p s m meth c b L xs) (hL : L ≤ 3072) {I : Nat → mw_S → Prop} (hag : ag_step I) {n i : Nat} {x3 : Int32} (ex : x3 = nI i) (hi : i + 6 ≤ L) (hn : n < 512) {σ : mw_S} (hI : I n σ) (oS : mw_okS σ) {H : Heap} {locs : List Loc} {ls : Array Slot} (hP : va_P D vwCl (mw_ws ad cA σ) H) (hS : va_S (mw_A ad s.heap.size) s.heap H locs) (hl : lv_has ls 4 (lq_lv ad b x3)) {cells slots : Nat} (hc1 : cells ≤ 600000) (hc2 : slots ≤ 7302250)
    (K : ∀ (σ' : mw_S) (H' : Heap) (locs' : List Loc), I (n + 1) σ' → mw_okS σ' → va_P D vwCl (mw_ws ad cA σ') H' → va_S (mw_A ad s.heap.size) s.heap H' locs' → W p l e room_1 s m #[Value.ref b] below meth c H' locs' cells slots Qm (F0 m 1488 ls [])) : W p l e room_1 s m #[Value.ref b] below meth c H locs cells slots Qm (F0 m 464 ls []) := by
  have hx0 := hx
  obtain ⟨⟨hex, hb, hr, hml, hown, hts, hX, hbl, hlocks, hgv⟩, hK, hCs, hfm, hinj, hlo⟩ := hx
  have hbA : ¬ mw_A ad s.heap.size b := fun q => by
    rcases q with ⟨k, h1, h2⟩ | q
    · have := hlo k h1
      omega
    · omega
  have h_1 : vp_in (x3 + 1) L := by rw [ex, show (1 : Int32) = nI 1 from rfl, nI_add]; exact vp_in_nI (by omega) (by omega)
  obtain ⟨w1, ew1⟩ : ∃ y : Int32, y = xs (x3 + 1).toNatClampNeg := ⟨_, rfl⟩
  refine lv_aload_n hex hb dl464 rfl (lv_at hl 1 rfl) ?_
  refine lv_aload_n hex hb dl465 rfl (lv_at hl 0 rfl) ?_
  refine lv_iload_n hex hb dl466 rfl (lv_at hl 3 rfl) ?_
  refine lv_iconst (v := 1) hex hb dl467 (by decide) ?_
  refine lv_iadd hex hb dl468 ?_
  refine va_sld hex hb hX hbl hbA hS h_1 dl469 ?_
  rw [← ew1]
  refine W.eq (g2 := F0 m 470 ls (([jI w1.toInt].reverse ++ jR 0 :: []).map (mw_tr ad fm))) ?_ ?_
  · simp only [List.reverse_cons, List.reverse_nil, List.nil_append, List.cons_append, List.map_cons, List.map_nil, lq_tr, lq_trL]
    try rfl
  have hcall := hag n σ (w1.toInt) hn hI oS (in32_of _)
  refine lq_call hx0 mq127 (hlink := by decide +kernel) rfl rfl (by rw [lq_len]; decide) (Nat.le_of_ble_eq_true rfl) dl470 hl.1 hc1 hc2 oS (fun v hv => by
      simp only [List.mem_cons, List.not_mem_nil, or_false] at hv
      rcases hv with rfl <;> first | exact in32_of _ | exact in64_of _ | exact ⟨by decide, by decide⟩) hP hS hcall (fun r σ1 H1 locs1 hcall2 oS1 okr hP1 hS1 => ?_)
  clear hP hS
  have hP := hP1
  have hS := hS1
  have hr1 : ∃ z, r = some (jI z) := by
    obtain ⟨r2, s2, -, ⟨z, h1, -⟩, -⟩ := hcall2
    exact ⟨z, h1⟩
  obtain ⟨z, rfl⟩ := hr1
  refine W.eq (g2 := F0 m 473 ls [mw_tr ad fm (jI z)]) rfl ?_
  refine lv_aload_n hex hb dl473 rfl (lv_at hl 2 rfl) ?_
  refine lv_aload_n hex hb dl474 rfl (lv_at hl 0 rfl) ?_
  refine lv_iload_n hex hb dl475 rfl (lv_at hl 3 rfl) ?_
  refine lv_iconst (v := 1) hex hb dl476 (by decide) ?_
  refine lv_iadd hex hb dl477 ?_
  refine va_sld hex hb hX hbl hbA hS h_1 dl478 ?_
  rw [← ew1]
  refine W.eq (g2 := F0 m 479 ls (([jI w1.toInt].reverse ++ jR 100 :: [jI z]).map (mw_tr ad fm))) ?_ ?_
  · simp only [List.reverse_cons, List.reverse_nil, List.nil_append, List.cons_append, List.map_cons, List.map_nil, lq_tr, lq_trL]
    try rfl
  refine lq_call hx0 mq221 (hlink := by decide +kernel) rfl rfl (by rw [lq_len]; decide) (Nat.le_of_ble_eq_true rfl) dl479 hl.1 hc1 hc2 oS1 (fun v hv => by
      simp only [List.mem_cons, List.not_mem_nil, or_false] at hv
      rcases hv with rfl <;> first | exact in32_of _ | exact in64_of _ | exact ⟨by decide, by decide⟩) hP hS hcall2 (fun r σ2 H2 locs2 hq oS2 okr2 hP2 hS2 => ?_)
  obtain ⟨⟨z2, h1, rfl⟩, hI2⟩ := hq
  cases h1
  refine W.eq (g2 := F0 m 482 ls [.int (i32 z), .int (i32 z)]) rfl ?_
  exact lv_icmp_eq (tgt := 1488) hex hb dl482 (by decide) (fun _ => K σ2 H2 locs2 hI2 oS2 hP2 hS2) (fun q9 => absurd rfl q9)
set_option maxHeartbeats 4000000 in
theorem lq_c9 (hx : lq_Cx D ad cA fm p s m meth c b L xs) (hL : L ≤ 3072) {I : Nat → mw_S → Prop} (hag : ag_undo I) {n i : Nat} {x3 : Int32} (ex : x3 = nI i) (hi : i + 6 ≤ L) (hn : n < 512) {σ : mw_S} (hI : I n σ) (oS : mw_okS σ) {H : Heap} {locs : List Loc} {ls : Array Slot} (hP : va_P D vwCl (mw_ws ad cA σ) H) (hS : va_S (mw_A ad s.heap.size) s.heap H locs) (hl : lv_has ls 4 (lq_lv ad b x3)) {cells slots : Nat} (hc1 : cells ≤ 600000) (hc2 : slots ≤ 7302250)
    (K : ∀ (σ' : mw_S) (H' : Heap) (locs' : List Loc), I (n + 1) σ' → mw_okS σ' → va_P D vwCl (mw_ws ad cA σ') H' → va_S (mw_A ad s.heap.size) s.heap H' locs' → W p l e room_1 s m #[Value.ref b] below meth c H' locs' cells slots Qm (F0 m 1488 ls [])) : W p l e room_1 s m #[Value.ref b] below meth c H locs cells slots Qm (F0 m 487 ls []) := by
  have hx0 := hx
  obtain ⟨⟨hex, hb, hr, hml, hown, hts, hX, hbl, hlocks, hgv⟩, hK, hCs, hfm, hinj, hlo⟩ := hx
  have hbA : ¬ mw_A ad s.heap.size b := fun q => by
    rcases q with ⟨k, h1, h2⟩ | q
    · have := hlo k h1
      omega
    · omega
  have h_1 : vp_in (x3 + 1) L := by rw [ex, show (1 : Int32) = nI 1 from rfl, nI_add]; exact vp_in_nI (by omega) (by omega)
  obtain ⟨w1, ew1⟩ : ∃ y : Int32, y = xs (x3 + 1).toNatClampNeg := ⟨_, rfl⟩
  refine lv_aload_n hex hb dl487 rfl (lv_at hl 1 rfl) ?_
  refine lv_aload_n hex hb dl488 rfl (lv_at hl 0 rfl) ?_
  refine lv_iload_n hex hb dl489 rfl (lv_at hl 3 rfl) ?_
  refine lv_iconst (v := 1) hex hb dl490 (by decide) ?_
  refine lv_iadd hex hb dl491 ?_
  refine va_sld hex hb hX hbl hbA hS h_1 dl492 ?_
  rw [← ew1]
  refine W.eq (g2 := F0 m 493 ls (([jI w1.toInt].reverse ++ jR 0 :: []).map (mw_tr ad fm))) ?_ ?_
  · simp only [List.reverse_cons, List.reverse_nil, List.nil_append, List.cons_append, List.map_cons, List.map_nil, lq_tr, lq_trL]
    try rfl
  have hcall := hag n σ (w1.toInt) hn hI oS (in32_of _)
  refine lq_call hx0 mq128 (hlink := by decide +kernel) rfl rfl (by rw [lq_len]; decide) (Nat.le_of_ble_eq_true rfl) dl493 hl.1 hc1 hc2 oS (fun v hv => by
      simp only [List.mem_cons, List.not_mem_nil, or_false] at hv
      rcases hv with rfl <;> first | exact in32_of _ | exact in64_of _ | exact ⟨by decide, by decide⟩) hP hS hcall (fun r σ1 H1 locs1 hcall2 oS1 okr hP1 hS1 => ?_)
  clear hP hS
  have hP := hP1
  have hS := hS1
  have hr1 : ∃ z, r = some (jI z) := by
    obtain ⟨r2, s2, -, ⟨z, h1, -⟩, -⟩ := hcall2
    exact ⟨z, h1⟩
  obtain ⟨z, rfl⟩ := hr1
  refine W.eq (g2 := F0 m 496 ls [mw_tr ad fm (jI z)]) rfl ?_
  refine lv_aload_n hex hb dl496 rfl (lv_at hl 2 rfl) ?_
  refine lv_aload_n hex hb dl497 rfl (lv_at hl 0 rfl) ?_
  refine lv_iload_n hex hb dl498 rfl (lv_at hl 3 rfl) ?_
  refine lv_iconst (v := 1) hex hb dl499 (by decide) ?_
  refine lv_iadd hex hb dl500 ?_
  refine va_sld hex hb hX hbl hbA hS h_1 dl501 ?_
  rw [← ew1]
  refine W.eq (g2 := F0 m 502 ls (([jI w1.toInt].reverse ++ jR 100 :: [jI z]).map (mw_tr ad fm))) ?_ ?_
  · simp only [List.reverse_cons, List.reverse_nil, List.nil_append, List.cons_append, List.map_cons, List.map_nil, lq_tr, lq_trL]
    try rfl
  refine lq_call hx0 mq222 (hlink := by decide +kernel) rfl rfl (by rw [lq_len]; decide) (Nat.le_of_ble_eq_true rfl) dl502 hl.1 hc1 hc2 oS1 (fun v hv => by
      simp only [List.mem_cons, List.not_mem_nil, or_false] at hv
      rcases hv with rfl <;> first | exact in32_of _ | exact in64_of _ | exact ⟨by decide, by decide⟩) hP hS hcall2 (fun r σ2 H2 locs2 hq oS2 okr2 hP2 hS2 => ?_)
  obtain ⟨⟨z2, h1, rfl⟩, hI2⟩ := hq
  cases h1
  refine W.eq (g2 := F0 m 505 ls [.int (i32 z), .int (i32 z)]) rfl ?_
  exact lv_icmp_eq (tgt := 1488) hex hb dl505 (by decide) (fun _ => K σ2 H2 locs2 hI2 oS2 hP2 hS2) (fun q9 => absurd rfl q9)
set_option maxHeartbeats 4000000 in
theorem lq_c10 (hx : lq_Cx D ad cA fm p s m meth c b L xs) (hL : L ≤ 3072) {I : Nat → mw_S → Prop} (hag : ag_judge I) {n i : Nat} {x3 : Int32} (ex : x3 = nI i) (hi : i + 6 ≤ L) (hn : n < 512) {σ : mw_S} (hI : I n σ) (oS : mw_okS σ) {H : Heap} {locs : List Loc} {ls : Array Slot} (hP : va_P D vwCl (mw_ws ad cA σ) H) (hS : va_S (mw_A ad s.heap.size) s.heap H locs) (hl : lv_has ls 4 (lq_lv ad b x3)) {cells slots : Nat} (hc1 : cells ≤ 600000) (hc2 : slots ≤ 7302250)
    (K : ∀ (σ' : mw_S) (H' : Heap) (locs' : List Loc), I (n + 1) σ' → mw_okS σ' → va_P D vwCl (mw_ws ad cA σ') H' → va_S (mw_A ad s.heap.size) s.heap H' locs' → W p l e room_1 s m #[Value.ref b] below meth c H' locs' cells slots Qm (F0 m 1488 ls [])) : W p l e room_1 s m #[Value.ref b] below meth c H locs cells slots Qm (F0 m 510 ls []) := by
  have hx0 := hx
  obtain ⟨⟨hex, hb, hr, hml, hown, hts, hX, hbl, hlocks, hgv⟩, hK, hCs, hfm, hinj, hlo⟩ := hx
  have hbA : ¬ mw_A ad s.heap.size b := fun q => by
    rcases q with ⟨k, h1, h2⟩ | q
    · have := hlo k h1
      omega
    · omega
  have h_1 : vp_in (x3 + 1) L := by rw [ex, show (1 : Int32) = nI 1 from rfl, nI_add]; exact vp_in_nI (by omega) (by omega)
  obtain ⟨w1, ew1⟩ : ∃ y : Int32, y = xs (x3 + 1).toNatClampNeg := ⟨_, rfl⟩
  have h_2 : vp_in (x3 + 2) L := by rw [ex, show (2 : Int32) = nI 2 from rfl, nI_add]; exact vp_in_nI (by omega) (by omega)
  obtain ⟨w2, ew2⟩ : ∃ y : Int32, y = xs (x3 + 2).toNatClampNeg := ⟨_, rfl⟩
  refine lv_aload_n hex hb dl510 rfl (lv_at hl 1 rfl) ?_
  refine lv_aload_n hex hb dl511 rfl (lv_at hl 0 rfl) ?_
  refine lv_iload_n hex hb dl512 rfl (lv_at hl 3 rfl) ?_
  refine lv_iconst (v := 1) hex hb dl513 (by decide) ?_
  refine lv_iadd hex hb dl514 ?_
  refine va_sld hex hb hX hbl hbA hS h_1 dl515 ?_
  rw [← ew1]
  refine lv_aload_n hex hb dl516 rfl (lv_at hl 0 rfl) ?_
  refine lv_iload_n hex hb dl517 rfl (lv_at hl 3 rfl) ?_
  refine lv_iconst (v := 2) hex hb dl518 (by decide) ?_
  refine lv_iadd hex hb dl519 ?_
  refine va_sld hex hb hX hbl hbA hS h_2 dl520 ?_
  rw [← ew2]
  refine W.eq (g2 := F0 m 521 ls (([jI w1.toInt, jI w2.toInt].reverse ++ jR 0 :: []).map (mw_tr ad fm))) ?_ ?_
  · simp only [List.reverse_cons, List.reverse_nil, List.nil_append, List.cons_append, List.map_cons, List.map_nil, lq_tr, lq_trL]
    try rfl
  have hcall := hag n σ (w1.toInt) (w2.toInt) hn hI oS (in32_of _) (in32_of _)
  refine lq_call hx0 mq129 (hlink := by decide +kernel) rfl rfl (by rw [lq_len]; decide) (Nat.le_of_ble_eq_true rfl) dl521 hl.1 hc1 hc2 oS (fun v hv => by
      simp only [List.mem_cons, List.not_mem_nil, or_false] at hv
      rcases hv with rfl | rfl <;> first | exact in32_of _ | exact in64_of _ | exact ⟨by decide, by decide⟩) hP hS hcall (fun r σ1 H1 locs1 hcall2 oS1 okr hP1 hS1 => ?_)
  clear hP hS
  have hP := hP1
  have hS := hS1
  have hr1 : ∃ z, r = some (jI z) := by
    obtain ⟨r2, s2, -, ⟨z, h1, -⟩, -⟩ := hcall2
    exact ⟨z, h1⟩
  obtain ⟨z, rfl⟩ := hr1
  refine W.eq (g2 := F0 m 524 ls [mw_tr ad fm (jI z)]) rfl ?_
  refine lv_aload_n hex hb dl524 rfl (lv_at hl 2 rfl) ?_
  refine lv_aload_n hex hb dl525 rfl (lv_at hl 0 rfl) ?_
  refine lv_iload_n hex hb dl526 rfl (lv_at hl 3 rfl) ?_
  refine lv_iconst (v := 1) hex hb dl527 (by decide) ?_
  refine lv_iadd hex hb dl528 ?_
  refine va_sld hex hb hX hbl hbA hS h_1 dl529 ?_
  rw [← ew1]
  refine lv_aload_n hex hb dl530 rfl (lv_at hl 0 rfl) ?_
  refine lv_iload_n hex hb dl531 rfl (lv_at hl 3 rfl) ?_
  refine lv_iconst (v := 2) hex hb dl532 (by decide) ?_
  refine lv_iadd hex hb dl533 ?_
  refine va_sld hex hb hX hbl hbA hS h_2 dl534 ?_
  rw [← ew2]
  refine W.eq (g2 := F0 m 535 ls (([jI w1.toInt, jI w2.toInt].reverse ++ jR 100 :: [jI z]).map (mw_tr ad fm))) ?_ ?_
  · simp only [List.reverse_cons, List.reverse_nil, List.nil_append, List.cons_append, List.map_cons, List.map_nil, lq_tr, lq_trL]
    try rfl
  refine lq_call hx0 mq225 (hlink := by decide +kernel) rfl rfl (by rw [lq_len]; decide) (Nat.le_of_ble_eq_true rfl) dl535 hl.1 hc1 hc2 oS1 (fun v hv => by
      simp only [List.mem_cons, List.not_mem_nil, or_false] at hv
      rcases hv with rfl | rfl <;> first | exact in32_of _ | exact in64_of _ | exact ⟨by decide, by decide⟩) hP hS hcall2 (fun r σ2 H2 locs2 hq oS2 okr2 hP2 hS2 => ?_)
  obtain ⟨⟨z2, h1, rfl⟩, hI2⟩ := hq
  cases h1
  refine W.eq (g2 := F0 m 538 ls [.int (i32 z), .int (i32 z)]) rfl ?_
  exact lv_icmp_eq (tgt := 1488) hex hb dl538 (by decide) (fun _ => K σ2 H2 locs2 hI2 oS2 hP2 hS2) (fun q9 => absurd rfl q9)
set_option maxHeartbeats 4000000 in
theorem lq_c11 (hx : lq_Cx D ad cA fm p s m meth c b L xs) (hL : L ≤ 3072) {I : Nat → mw_S → Prop} (hag : ag_perform I) {n i : Nat} {x3 : Int32} (ex : x3 = nI i) (hi : i + 6 ≤ L) (hn : n < 512) {σ : mw_S} (hI : I n σ) (oS : mw_okS σ) {H : Heap} {locs : List Loc} {ls : Array Slot} (hP : va_P D vwCl (mw_ws ad cA σ) H) (hS : va_S (mw_A ad s.heap.size) s.heap H locs) (hl : lv_has ls 4 (lq_lv ad b x3)) {cells slots : Nat} (hc1 : cells ≤ 600000) (hc2 : slots ≤ 7302250)
    (K : ∀ (σ' : mw_S) (H' : Heap) (locs' : List Loc), I (n + 1) σ' → mw_okS σ' → va_P D vwCl (mw_ws ad cA σ') H' → va_S (mw_A ad s.heap.size) s.heap H' locs' → W p l e room_1 s m #[Value.ref b] below meth c H' locs' cells slots Qm (F0 m 1488 ls [])) : W p l e room_1 s m #[Value.ref b] below meth c H locs cells slots Qm (F0 m 543 ls []) := by
  have hx0 := hx
  obtain ⟨⟨hex, hb, hr, hml, hown, hts, hX, hbl, hlocks, hgv⟩, hK, hCs, hfm, hinj, hlo⟩ := hx
  have hbA : ¬ mw_A ad s.heap.size b := fun q => by
    rcases q with ⟨k, h1, h2⟩ | q
    · have := hlo k h1
      omega
    · omega
  have h_1 : vp_in (x3 + 1) L := by rw [ex, show (1 : Int32) = nI 1 from rfl, nI_add]; exact vp_in_nI (by omega) (by omega)
  obtain ⟨w1, ew1⟩ : ∃ y : Int32, y = xs (x3 + 1).toNatClampNeg := ⟨_, rfl⟩
  refine lv_aload_n hex hb dl543 rfl (lv_at hl 1 rfl) ?_
  refine lv_aload_n hex hb dl544 rfl (lv_at hl 0 rfl) ?_
  refine lv_iload_n hex hb dl545 rfl (lv_at hl 3 rfl) ?_
  refine lv_iconst (v := 1) hex hb dl546 (by decide) ?_
  refine lv_iadd hex hb dl547 ?_
  refine va_sld hex hb hX hbl hbA hS h_1 dl548 ?_
  rw [← ew1]
  refine W.eq (g2 := F0 m 549 ls (([jI w1.toInt].reverse ++ jR 0 :: []).map (mw_tr ad fm))) ?_ ?_
  · simp only [List.reverse_cons, List.reverse_nil, List.nil_append, List.cons_append, List.map_cons, List.map_nil, lq_tr, lq_trL]
    try rfl
  have hcall := hag n σ (w1.toInt) hn hI oS (in32_of _)
  refine lq_call hx0 mq130 (hlink := by decide +kernel) rfl rfl (by rw [lq_len]; decide) (Nat.le_of_ble_eq_true rfl) dl549 hl.1 hc1 hc2 oS (fun v hv => by
      simp only [List.mem_cons, List.not_mem_nil, or_false] at hv
      rcases hv with rfl <;> first | exact in32_of _ | exact in64_of _ | exact ⟨by decide, by decide⟩) hP hS hcall (fun r σ1 H1 locs1 hcall2 oS1 okr hP1 hS1 => ?_)
  clear hP hS
  have hP := hP1
  have hS := hS1
  have hr1 : ∃ z, r = some (jI z) := by
    obtain ⟨r2, s2, -, ⟨z, h1, -⟩, -⟩ := hcall2
    exact ⟨z, h1⟩
  obtain ⟨z, rfl⟩ := hr1
  refine W.eq (g2 := F0 m 552 ls [mw_tr ad fm (jI z)]) rfl ?_
  refine lv_aload_n hex hb dl552 rfl (lv_at hl 2 rfl) ?_
  refine lv_aload_n hex hb dl553 rfl (lv_at hl 0 rfl) ?_
  refine lv_iload_n hex hb dl554 rfl (lv_at hl 3 rfl) ?_
  refine lv_iconst (v := 1) hex hb dl555 (by decide) ?_
  refine lv_iadd hex hb dl556 ?_
  refine va_sld hex hb hX hbl hbA hS h_1 dl557 ?_
  rw [← ew1]
  refine W.eq (g2 := F0 m 558 ls (([jI w1.toInt].reverse ++ jR 100 :: [jI z]).map (mw_tr ad fm))) ?_ ?_
  · simp only [List.reverse_cons, List.reverse_nil, List.nil_append, List.cons_append, List.map_cons, List.map_nil, lq_tr, lq_trL]
    try rfl
  refine lq_call hx0 mq226 (hlink := by decide +kernel) rfl rfl (by rw [lq_len]; decide) (Nat.le_of_ble_eq_true rfl) dl558 hl.1 hc1 hc2 oS1 (fun v hv => by
      simp only [List.mem_cons, List.not_mem_nil, or_false] at hv
      rcases hv with rfl <;> first | exact in32_of _ | exact in64_of _ | exact ⟨by decide, by decide⟩) hP hS hcall2 (fun r σ2 H2 locs2 hq oS2 okr2 hP2 hS2 => ?_)
  obtain ⟨⟨z2, h1, rfl⟩, hI2⟩ := hq
  cases h1
  refine W.eq (g2 := F0 m 561 ls [.int (i32 z), .int (i32 z)]) rfl ?_
  exact lv_icmp_eq (tgt := 1488) hex hb dl561 (by decide) (fun _ => K σ2 H2 locs2 hI2 oS2 hP2 hS2) (fun q9 => absurd rfl q9)
set_option maxHeartbeats 4000000 in
theorem lq_c12 (hx : lq_Cx D ad cA fm p s m meth c b L xs) (hL : L ≤ 3072) {I : Nat → mw_S → Prop} (hag : ag_day I) {n i : Nat} {x3 : Int32} (ex : x3 = nI i) (hi : i + 6 ≤ L) (hn : n < 512) {σ : mw_S} (hI : I n σ) (oS : mw_okS σ) {H : Heap} {locs : List Loc} {ls : Array Slot} (hP : va_P D vwCl (mw_ws ad cA σ) H) (hS : va_S (mw_A ad s.heap.size) s.heap H locs) (hl : lv_has ls 4 (lq_lv ad b x3)) {cells slots : Nat} (hc1 : cells ≤ 600000) (hc2 : slots ≤ 7302250)
    (K : ∀ (σ' : mw_S) (H' : Heap) (locs' : List Loc), I (n + 1) σ' → mw_okS σ' → va_P D vwCl (mw_ws ad cA σ') H' → va_S (mw_A ad s.heap.size) s.heap H' locs' → W p l e room_1 s m #[Value.ref b] below meth c H' locs' cells slots Qm (F0 m 1488 ls [])) : W p l e room_1 s m #[Value.ref b] below meth c H locs cells slots Qm (F0 m 566 ls []) := by
  have hx0 := hx
  obtain ⟨⟨hex, hb, hr, hml, hown, hts, hX, hbl, hlocks, hgv⟩, hK, hCs, hfm, hinj, hlo⟩ := hx
  have hbA : ¬ mw_A ad s.heap.size b := fun q => by
    rcases q with ⟨k, h1, h2⟩ | q
    · have := hlo k h1
      omega
    · omega
  have h_1 : vp_in (x3 + 1) L := by rw [ex, show (1 : Int32) = nI 1 from rfl, nI_add]; exact vp_in_nI (by omega) (by omega)
  obtain ⟨w1, ew1⟩ : ∃ y : Int32, y = xs (x3 + 1).toNatClampNeg := ⟨_, rfl⟩
  have h_2 : vp_in (x3 + 2) L := by rw [ex, show (2 : Int32) = nI 2 from rfl, nI_add]; exact vp_in_nI (by omega) (by omega)
  obtain ⟨w2, ew2⟩ : ∃ y : Int32, y = xs (x3 + 2).toNatClampNeg := ⟨_, rfl⟩
  refine lv_aload_n hex hb dl566 rfl (lv_at hl 1 rfl) ?_
  refine lv_aload_n hex hb dl567 rfl (lv_at hl 0 rfl) ?_
  refine lv_iload_n hex hb dl568 rfl (lv_at hl 3 rfl) ?_
  refine lv_iconst (v := 1) hex hb dl569 (by decide) ?_
  refine lv_iadd hex hb dl570 ?_
  refine va_sld hex hb hX hbl hbA hS h_1 dl571 ?_
  rw [← ew1]
  refine lv_aload_n hex hb dl572 rfl (lv_at hl 0 rfl) ?_
  refine lv_iload_n hex hb dl573 rfl (lv_at hl 3 rfl) ?_
  refine lv_iconst (v := 2) hex hb dl574 (by decide) ?_
  refine lv_iadd hex hb dl575 ?_
  refine va_sld hex hb hX hbl hbA hS h_2 dl576 ?_
  rw [← ew2]
  refine W.eq (g2 := F0 m 577 ls (([jI w1.toInt, jI w2.toInt].reverse ++ jR 0 :: []).map (mw_tr ad fm))) ?_ ?_
  · simp only [List.reverse_cons, List.reverse_nil, List.nil_append, List.cons_append, List.map_cons, List.map_nil, lq_tr, lq_trL]
    try rfl
  have hcall := hag n σ (w1.toInt) (w2.toInt) hn hI oS (in32_of _) (in32_of _)
  refine lq_call hx0 mq131 (hlink := by decide +kernel) rfl rfl (by rw [lq_len]; decide) (Nat.le_of_ble_eq_true rfl) dl577 hl.1 hc1 hc2 oS (fun v hv => by
      simp only [List.mem_cons, List.not_mem_nil, or_false] at hv
      rcases hv with rfl | rfl <;> first | exact in32_of _ | exact in64_of _ | exact ⟨by decide, by decide⟩) hP hS hcall (fun r σ1 H1 locs1 hcall2 oS1 okr hP1 hS1 => ?_)
  clear hP hS
  have hP := hP1
  have hS := hS1
  have hr1 : ∃ z, r = some (jI z) := by
    obtain ⟨r2, s2, -, ⟨z, h1, -⟩, -⟩ := hcall2
    exact ⟨z, h1⟩
  obtain ⟨z, rfl⟩ := hr1
  refine W.eq (g2 := F0 m 580 ls [mw_tr ad fm (jI z)]) rfl ?_
  refine lv_aload_n hex hb dl580 rfl (lv_at hl 2 rfl) ?_
  refine lv_aload_n hex hb dl581 rfl (lv_at hl 0 rfl) ?_
  refine lv_iload_n hex hb dl582 rfl (lv_at hl 3 rfl) ?_
  refine lv_iconst (v := 1) hex hb dl583 (by decide) ?_
  refine lv_iadd hex hb dl584 ?_
  refine va_sld hex hb hX hbl hbA hS h_1 dl585 ?_
  rw [← ew1]
  refine lv_aload_n hex hb dl586 rfl (lv_at hl 0 rfl) ?_
  refine lv_iload_n hex hb dl587 rfl (lv_at hl 3 rfl) ?_
  refine lv_iconst (v := 2) hex hb dl588 (by decide) ?_
  refine lv_iadd hex hb dl589 ?_
  refine va_sld hex hb hX hbl hbA hS h_2 dl590 ?_
  rw [← ew2]
  refine W.eq (g2 := F0 m 591 ls (([jI w1.toInt, jI w2.toInt].reverse ++ jR 100 :: [jI z]).map (mw_tr ad fm))) ?_ ?_
  · simp only [List.reverse_cons, List.reverse_nil, List.nil_append, List.cons_append, List.map_cons, List.map_nil, lq_tr, lq_trL]
    try rfl
  refine lq_call hx0 mq228 (hlink := by decide +kernel) rfl rfl (by rw [lq_len]; decide) (Nat.le_of_ble_eq_true rfl) dl591 hl.1 hc1 hc2 oS1 (fun v hv => by
      simp only [List.mem_cons, List.not_mem_nil, or_false] at hv
      rcases hv with rfl | rfl <;> first | exact in32_of _ | exact in64_of _ | exact ⟨by decide, by decide⟩) hP hS hcall2 (fun r σ2 H2 locs2 hq oS2 okr2 hP2 hS2 => ?_)
  obtain ⟨⟨z2, h1, rfl⟩, hI2⟩ := hq
  cases h1
  refine W.eq (g2 := F0 m 594 ls [.int (i32 z), .int (i32 z)]) rfl ?_
  exact lv_icmp_eq (tgt := 1488) hex hb dl594 (by decide) (fun _ => K σ2 H2 locs2 hI2 oS2 hP2 hS2) (fun q9 => absurd rfl q9)
set_option maxHeartbeats 4000000 in
theorem lq_c13 (hx : lq_Cx D ad cA fm p s m meth c b L xs) (hL : L ≤ 3072) {I : Nat → mw_S → Prop} (hag : ag_fails I) {n i : Nat} {x3 : Int32} (ex : x3 = nI i) (hi : i + 6 ≤ L) (hn : n < 512) {σ : mw_S} (hI : I n σ) (oS : mw_okS σ) {H : Heap} {locs : List Loc} {ls : Array Slot} (hP : va_P D vwCl (mw_ws ad cA σ) H) (hS : va_S (mw_A ad s.heap.size) s.heap H locs) (hl : lv_has ls 4 (lq_lv ad b x3)) {cells slots : Nat} (hc1 : cells ≤ 600000) (hc2 : slots ≤ 7302250)
    (K : ∀ (σ' : mw_S) (H' : Heap) (locs' : List Loc), I (n + 1) σ' → mw_okS σ' → va_P D vwCl (mw_ws ad cA σ') H' → va_S (mw_A ad s.heap.size) s.heap H' locs' → W p l e room_1 s m #[Value.ref b] below meth c H' locs' cells slots Qm (F0 m 1488 ls [])) : W p l e room_1 s m #[Value.ref b] below meth c H locs cells slots Qm (F0 m 599 ls []) := by
  have hx0 := hx
  obtain ⟨⟨hex, hb, hr, hml, hown, hts, hX, hbl, hlocks, hgv⟩, hK, hCs, hfm, hinj, hlo⟩ := hx
  have hbA : ¬ mw_A ad s.heap.size b := fun q => by
    rcases q with ⟨k, h1, h2⟩ | q
    · have := hlo k h1
      omega
    · omega
  have h_1 : vp_in (x3 + 1) L := by rw [ex, show (1 : Int32) = nI 1 from rfl, nI_add]; exact vp_in_nI (by omega) (by omega)
  obtain ⟨w1, ew1⟩ : ∃ y : Int32, y = xs (x3 + 1).toNatClampNeg := ⟨_, rfl⟩
  have h_2 : vp_in (x3 + 2) L := by rw [ex, show (2 : Int32) = nI 2 from rfl, nI_add]; exact vp_in_nI (by omega) (by omega)
  obtain ⟨w2, ew2⟩ : ∃ y : Int32, y = xs (x3 + 2).toNatClampNeg := ⟨_, rfl⟩
  refine lv_aload_n hex hb dl599 rfl (lv_at hl 1 rfl) ?_
  refine lv_aload_n hex hb dl600 rfl (lv_at hl 0 rfl) ?_
  refine lv_iload_n hex hb dl601 rfl (lv_at hl 3 rfl) ?_
  refine lv_iconst (v := 1) hex hb dl602 (by decide) ?_
  refine lv_iadd hex hb dl603 ?_
  refine va_sld hex hb hX hbl hbA hS h_1 dl604 ?_
  rw [← ew1]
  refine lv_aload_n hex hb dl605 rfl (lv_at hl 0 rfl) ?_
  refine lv_iload_n hex hb dl606 rfl (lv_at hl 3 rfl) ?_
  refine lv_iconst (v := 2) hex hb dl607 (by decide) ?_
  refine lv_iadd hex hb dl608 ?_
  refine va_sld hex hb hX hbl hbA hS h_2 dl609 ?_
  rw [← ew2]
  refine W.eq (g2 := F0 m 610 ls (([jI w1.toInt, jI w2.toInt].reverse ++ jR 0 :: []).map (mw_tr ad fm))) ?_ ?_
  · simp only [List.reverse_cons, List.reverse_nil, List.nil_append, List.cons_append, List.map_cons, List.map_nil, lq_tr, lq_trL]
    try rfl
  have hcall := hag n σ (w1.toInt) (w2.toInt) hn hI oS (in32_of _) (in32_of _)
  refine lq_call hx0 mq132 (hlink := by decide +kernel) rfl rfl (by rw [lq_len]; decide) (Nat.le_of_ble_eq_true rfl) dl610 hl.1 hc1 hc2 oS (fun v hv => by
      simp only [List.mem_cons, List.not_mem_nil, or_false] at hv
      rcases hv with rfl | rfl <;> first | exact in32_of _ | exact in64_of _ | exact ⟨by decide, by decide⟩) hP hS hcall (fun r σ1 H1 locs1 hcall2 oS1 okr hP1 hS1 => ?_)
  clear hP hS
  have hP := hP1
  have hS := hS1
  have hr1 : ∃ z, r = some (jI z) := by
    obtain ⟨r2, s2, -, ⟨z, h1, -⟩, -⟩ := hcall2
    exact ⟨z, h1⟩
  obtain ⟨z, rfl⟩ := hr1
  refine W.eq (g2 := F0 m 613 ls [mw_tr ad fm (jI z)]) rfl ?_
  refine lv_aload_n hex hb dl613 rfl (lv_at hl 2 rfl) ?_
  refine lv_aload_n hex hb dl614 rfl (lv_at hl 0 rfl) ?_
  refine lv_iload_n hex hb dl615 rfl (lv_at hl 3 rfl) ?_
  refine lv_iconst (v := 1) hex hb dl616 (by decide) ?_
  refine lv_iadd hex hb dl617 ?_
  refine va_sld hex hb hX hbl hbA hS h_1 dl618 ?_
  rw [← ew1]
  refine lv_aload_n hex hb dl619 rfl (lv_at hl 0 rfl) ?_
  refine lv_iload_n hex hb dl620 rfl (lv_at hl 3 rfl) ?_
  refine lv_iconst (v := 2) hex hb dl621 (by decide) ?_
  refine lv_iadd hex hb dl622 ?_
  refine va_sld hex hb hX hbl hbA hS h_2 dl623 ?_
  rw [← ew2]
  refine W.eq (g2 := F0 m 624 ls (([jI w1.toInt, jI w2.toInt].reverse ++ jR 100 :: [jI z]).map (mw_tr ad fm))) ?_ ?_
  · simp only [List.reverse_cons, List.reverse_nil, List.nil_append, List.cons_append, List.map_cons, List.map_nil, lq_tr, lq_trL]
    try rfl
  refine lq_call hx0 mq229 (hlink := by decide +kernel) rfl rfl (by rw [lq_len]; decide) (Nat.le_of_ble_eq_true rfl) dl624 hl.1 hc1 hc2 oS1 (fun v hv => by
      simp only [List.mem_cons, List.not_mem_nil, or_false] at hv
      rcases hv with rfl | rfl <;> first | exact in32_of _ | exact in64_of _ | exact ⟨by decide, by decide⟩) hP hS hcall2 (fun r σ2 H2 locs2 hq oS2 okr2 hP2 hS2 => ?_)
  obtain ⟨⟨z2, h1, rfl⟩, hI2⟩ := hq
  cases h1
  refine W.eq (g2 := F0 m 627 ls [.int (i32 z), .int (i32 z)]) rfl ?_
  exact lv_icmp_eq (tgt := 1488) hex hb dl627 (by decide) (fun _ => K σ2 H2 locs2 hI2 oS2 hP2 hS2) (fun q9 => absurd rfl q9)
set_option maxHeartbeats 4000000 in
theorem lq_c14 (hx : lq_Cx D ad cA fm p s m meth c b L xs) (hL : L ≤ 3072) {I : Nat → mw_S → Prop} (hag : ag_round I) {n i : Nat} {x3 : Int32} (ex : x3 = nI i) (hi : i + 6 ≤ L) (hn : n < 512) {σ : mw_S} (hI : I n σ) (oS : mw_okS σ) {H : Heap} {locs : List Loc} {ls : Array Slot} (hP : va_P D vwCl (mw_ws ad cA σ) H) (hS : va_S (mw_A ad s.heap.size) s.heap H locs) (hl : lv_has ls 4 (lq_lv ad b x3)) {cells slots : Nat} (hc1 : cells ≤ 600000) (hc2 : slots ≤ 7302250)
    (K : ∀ (σ' : mw_S) (H' : Heap) (locs' : List Loc), I (n + 1) σ' → mw_okS σ' → va_P D vwCl (mw_ws ad cA σ') H' → va_S (mw_A ad s.heap.size) s.heap H' locs' → W p l e room_1 s m #[Value.ref b] below meth c H' locs' cells slots Qm (F0 m 1488 ls [])) : W p l e room_1 s m #[Value.ref b] below meth c H locs cells slots Qm (F0 m 632 ls []) := by
  have hx0 := hx
  obtain ⟨⟨hex, hb, hr, hml, hown, hts, hX, hbl, hlocks, hgv⟩, hK, hCs, hfm, hinj, hlo⟩ := hx
  have hbA : ¬ mw_A ad s.heap.size b := fun q => by
    rcases q with ⟨k, h1, h2⟩ | q
    · have := hlo k h1
      omega
    · omega
  have h_1 : vp_in (x3 + 1) L := by rw [ex, show (1 : Int32) = nI 1 from rfl, nI_add]; exact vp_in_nI (by omega) (by omega)
  obtain ⟨w1, ew1⟩ : ∃ y : Int32, y = xs (x3 + 1).toNatClampNeg := ⟨_, rfl⟩
  have h_2 : vp_in (x3 + 2) L := by rw [ex, show (2 : Int32) = nI 2 from rfl, nI_add]; exact vp_in_nI (by omega) (by omega)
  obtain ⟨w2, ew2⟩ : ∃ y : Int32, y = xs (x3 + 2).toNatClampNeg := ⟨_, rfl⟩
  refine lv_aload_n hex hb dl632 rfl (lv_at hl 1 rfl) ?_
  refine lv_aload_n hex hb dl633 rfl (lv_at hl 0 rfl) ?_
  refine lv_iload_n hex hb dl634 rfl (lv_at hl 3 rfl) ?_
  refine lv_iconst (v := 1) hex hb dl635 (by decide) ?_
  refine lv_iadd hex hb dl636 ?_
  refine va_sld hex hb hX hbl hbA hS h_1 dl637 ?_
  rw [← ew1]
  refine lv_aload_n hex hb dl638 rfl (lv_at hl 0 rfl) ?_
  refine lv_iload_n hex hb dl639 rfl (lv_at hl 3 rfl) ?_
  refine lv_iconst (v := 2) hex hb dl640 (by decide) ?_
  refine lv_iadd hex hb dl641 ?_
  refine va_sld hex hb hX hbl hbA hS h_2 dl642 ?_
  rw [← ew2]
  refine W.eq (g2 := F0 m 643 ls (([jI w1.toInt, jI w2.toInt].reverse ++ jR 0 :: []).map (mw_tr ad fm))) ?_ ?_
  · simp only [List.reverse_cons, List.reverse_nil, List.nil_append, List.cons_append, List.map_cons, List.map_nil, lq_tr, lq_trL]
    try rfl
  have hcall := hag n σ (w1.toInt) (w2.toInt) hn hI oS (in32_of _) (in32_of _)
  refine lq_call hx0 mq133 (hlink := by decide +kernel) rfl rfl (by rw [lq_len]; decide) (Nat.le_of_ble_eq_true rfl) dl643 hl.1 hc1 hc2 oS (fun v hv => by
      simp only [List.mem_cons, List.not_mem_nil, or_false] at hv
      rcases hv with rfl | rfl <;> first | exact in32_of _ | exact in64_of _ | exact ⟨by decide, by decide⟩) hP hS hcall (fun r σ1 H1 locs1 hcall2 oS1 okr hP1 hS1 => ?_)
  clear hP hS
  have hP := hP1
  have hS := hS1
  have hr1 : ∃ z, r = some (jI z) := by
    obtain ⟨r2, s2, -, ⟨z, h1, -⟩, -⟩ := hcall2
    exact ⟨z, h1⟩
  obtain ⟨z, rfl⟩ := hr1
  refine W.eq (g2 := F0 m 646 ls [mw_tr ad fm (jI z)]) rfl ?_
  refine lv_aload_n hex hb dl646 rfl (lv_at hl 2 rfl) ?_
  refine lv_aload_n hex hb dl647 rfl (lv_at hl 0 rfl) ?_
  refine lv_iload_n hex hb dl648 rfl (lv_at hl 3 rfl) ?_
  refine lv_iconst (v := 1) hex hb dl649 (by decide) ?_
  refine lv_iadd hex hb dl650 ?_
  refine va_sld hex hb hX hbl hbA hS h_1 dl651 ?_
  rw [← ew1]
  refine lv_aload_n hex hb dl652 rfl (lv_at hl 0 rfl) ?_
  refine lv_iload_n hex hb dl653 rfl (lv_at hl 3 rfl) ?_
  refine lv_iconst (v := 2) hex hb dl654 (by decide) ?_
  refine lv_iadd hex hb dl655 ?_
  refine va_sld hex hb hX hbl hbA hS h_2 dl656 ?_
  rw [← ew2]
  refine W.eq (g2 := F0 m 657 ls (([jI w1.toInt, jI w2.toInt].reverse ++ jR 100 :: [jI z]).map (mw_tr ad fm))) ?_ ?_
  · simp only [List.reverse_cons, List.reverse_nil, List.nil_append, List.cons_append, List.map_cons, List.map_nil, lq_tr, lq_trL]
    try rfl
  refine lq_call hx0 mq230 (hlink := by decide +kernel) rfl rfl (by rw [lq_len]; decide) (Nat.le_of_ble_eq_true rfl) dl657 hl.1 hc1 hc2 oS1 (fun v hv => by
      simp only [List.mem_cons, List.not_mem_nil, or_false] at hv
      rcases hv with rfl | rfl <;> first | exact in32_of _ | exact in64_of _ | exact ⟨by decide, by decide⟩) hP hS hcall2 (fun r σ2 H2 locs2 hq oS2 okr2 hP2 hS2 => ?_)
  obtain ⟨⟨z2, h1, rfl⟩, hI2⟩ := hq
  cases h1
  refine W.eq (g2 := F0 m 660 ls [.int (i32 z), .int (i32 z)]) rfl ?_
  exact lv_icmp_eq (tgt := 1488) hex hb dl660 (by decide) (fun _ => K σ2 H2 locs2 hI2 oS2 hP2 hS2) (fun q9 => absurd rfl q9)
set_option maxHeartbeats 4000000 in
theorem lq_c15 (hx : lq_Cx D ad cA fm p s m meth c b L xs) (hL : L ≤ 3072) {I : Nat → mw_S → Prop} (hag : ag_soonest I) {n i : Nat} {x3 : Int32} (ex : x3 = nI i) (hi : i + 6 ≤ L) (hn : n < 512) {σ : mw_S} (hI : I n σ) (oS : mw_okS σ) {H : Heap} {locs : List Loc} {ls : Array Slot} (hP : va_P D vwCl (mw_ws ad cA σ) H) (hS : va_S (mw_A ad s.heap.size) s.heap H locs) (hl : lv_has ls 4 (lq_lv ad b x3)) {cells slots : Nat} (hc1 : cells ≤ 600000) (hc2 : slots ≤ 7302250)
    (K : ∀ (σ' : mw_S) (H' : Heap) (locs' : List Loc), I (n + 1) σ' → mw_okS σ' → va_P D vwCl (mw_ws ad cA σ') H' → va_S (mw_A ad s.heap.size) s.heap H' locs' → W p l e room_1 s m #[Value.ref b] below meth c H' locs' cells slots Qm (F0 m 1488 ls [])) : W p l e room_1 s m #[Value.ref b] below meth c H locs cells slots Qm (F0 m 665 ls []) := by
  have hx0 := hx
  obtain ⟨⟨hex, hb, hr, hml, hown, hts, hX, hbl, hlocks, hgv⟩, hK, hCs, hfm, hinj, hlo⟩ := hx
  have hbA : ¬ mw_A ad s.heap.size b := fun q => by
    rcases q with ⟨k, h1, h2⟩ | q
    · have := hlo k h1
      omega
    · omega
  have h_1 : vp_in (x3 + 1) L := by rw [ex, show (1 : Int32) = nI 1 from rfl, nI_add]; exact vp_in_nI (by omega) (by omega)
  obtain ⟨w1, ew1⟩ : ∃ y : Int32, y = xs (x3 + 1).toNatClampNeg := ⟨_, rfl⟩
  have h_2 : vp_in (x3 + 2) L := by rw [ex, show (2 : Int32) = nI 2 from rfl, nI_add]; exact vp_in_nI (by omega) (by omega)
  obtain ⟨w2, ew2⟩ : ∃ y : Int32, y = xs (x3 + 2).toNatClampNeg := ⟨_, rfl⟩
  have h_3 : vp_in (x3 + 3) L := by rw [ex, show (3 : Int32) = nI 3 from rfl, nI_add]; exact vp_in_nI (by omega) (by omega)
  obtain ⟨w3, ew3⟩ : ∃ y : Int32, y = xs (x3 + 3).toNatClampNeg := ⟨_, rfl⟩
  have h_4 : vp_in (x3 + 4) L := by rw [ex, show (4 : Int32) = nI 4 from rfl, nI_add]; exact vp_in_nI (by omega) (by omega)
  obtain ⟨w4, ew4⟩ : ∃ y : Int32, y = xs (x3 + 4).toNatClampNeg := ⟨_, rfl⟩
  refine lv_aload_n hex hb dl665 rfl (lv_at hl 1 rfl) ?_
  refine lv_aload_n hex hb dl666 rfl (lv_at hl 0 rfl) ?_
  refine lv_iload_n hex hb dl667 rfl (lv_at hl 3 rfl) ?_
  refine lv_iconst (v := 1) hex hb dl668 (by decide) ?_
  refine lv_iadd hex hb dl669 ?_
  refine va_sld hex hb hX hbl hbA hS h_1 dl670 ?_
  rw [← ew1]
  refine lv_aload_n hex hb dl671 rfl (lv_at hl 0 rfl) ?_
  refine lv_iload_n hex hb dl672 rfl (lv_at hl 3 rfl) ?_
  refine lv_iconst (v := 2) hex hb dl673 (by decide) ?_
  refine lv_iadd hex hb dl674 ?_
  refine va_sld hex hb hX hbl hbA hS h_2 dl675 ?_
  rw [← ew2]
  refine lv_aload_n hex hb dl676 rfl (lv_at hl 0 rfl) ?_
  refine lv_iload_n hex hb dl677 rfl (lv_at hl 3 rfl) ?_
  refine lv_iconst (v := 3) hex hb dl678 (by decide) ?_
  refine lv_iadd hex hb dl679 ?_
  refine va_sld hex hb hX hbl hbA hS h_3 dl680 ?_
  rw [← ew3]
  refine lv_aload_n hex hb dl681 rfl (lv_at hl 0 rfl) ?_
  refine lv_iload_n hex hb dl682 rfl (lv_at hl 3 rfl) ?_
  refine lv_iconst (v := 4) hex hb dl683 (by decide) ?_
  refine lv_iadd hex hb dl684 ?_
  refine va_sld hex hb hX hbl hbA hS h_4 dl685 ?_
  rw [← ew4]
  refine W.eq (g2 := F0 m 686 ls (([jI w1.toInt, jI w2.toInt, jI w3.toInt, jI w4.toInt].reverse ++ jR 0 :: []).map (mw_tr ad fm))) ?_ ?_
  · simp only [List.reverse_cons, List.reverse_nil, List.nil_append, List.cons_append, List.map_cons, List.map_nil, lq_tr, lq_trL]
    try rfl
  have hcall := hag n σ (w1.toInt) (w2.toInt) (w3.toInt) (w4.toInt) hn hI oS (in32_of _) (in32_of _) (in32_of _) (in32_of _)
  refine lq_call hx0 mq134 (hlink := by decide +kernel) rfl rfl (by rw [lq_len]; decide) (Nat.le_of_ble_eq_true rfl) dl686 hl.1 hc1 hc2 oS (fun v hv => by
      simp only [List.mem_cons, List.not_mem_nil, or_false] at hv
      rcases hv with rfl | rfl | rfl | rfl <;> first | exact in32_of _ | exact in64_of _ | exact ⟨by decide, by decide⟩) hP hS hcall (fun r σ1 H1 locs1 hcall2 oS1 okr hP1 hS1 => ?_)
  clear hP hS
  have hP := hP1
  have hS := hS1
  have hr1 : ∃ z, r = some (jI z) := by
    obtain ⟨r2, s2, -, ⟨z, h1, -⟩, -⟩ := hcall2
    exact ⟨z, h1⟩
  obtain ⟨z, rfl⟩ := hr1
  refine W.eq (g2 := F0 m 689 ls [mw_tr ad fm (jI z)]) rfl ?_
  refine lv_aload_n hex hb dl689 rfl (lv_at hl 2 rfl) ?_
  refine lv_aload_n hex hb dl690 rfl (lv_at hl 0 rfl) ?_
  refine lv_iload_n hex hb dl691 rfl (lv_at hl 3 rfl) ?_
  refine lv_iconst (v := 1) hex hb dl692 (by decide) ?_
  refine lv_iadd hex hb dl693 ?_
  refine va_sld hex hb hX hbl hbA hS h_1 dl694 ?_
  rw [← ew1]
  refine lv_aload_n hex hb dl695 rfl (lv_at hl 0 rfl) ?_
  refine lv_iload_n hex hb dl696 rfl (lv_at hl 3 rfl) ?_
  refine lv_iconst (v := 2) hex hb dl697 (by decide) ?_
  refine lv_iadd hex hb dl698 ?_
  refine va_sld hex hb hX hbl hbA hS h_2 dl699 ?_
  rw [← ew2]
  refine lv_aload_n hex hb dl700 rfl (lv_at hl 0 rfl) ?_
  refine lv_iload_n hex hb dl701 rfl (lv_at hl 3 rfl) ?_
  refine lv_iconst (v := 3) hex hb dl702 (by decide) ?_
  refine lv_iadd hex hb dl703 ?_
  refine va_sld hex hb hX hbl hbA hS h_3 dl704 ?_
  rw [← ew3]
  refine lv_aload_n hex hb dl705 rfl (lv_at hl 0 rfl) ?_
  refine lv_iload_n hex hb dl706 rfl (lv_at hl 3 rfl) ?_
  refine lv_iconst (v := 4) hex hb dl707 (by decide) ?_
  refine lv_iadd hex hb dl708 ?_
  refine va_sld hex hb hX hbl hbA hS h_4 dl709 ?_
  rw [← ew4]
  refine W.eq (g2 := F0 m 710 ls (([jI w1.toInt, jI w2.toInt, jI w3.toInt, jI w4.toInt].reverse ++ jR 100 :: [jI z]).map (mw_tr ad fm))) ?_ ?_
  · simp only [List.reverse_cons, List.reverse_nil, List.nil_append, List.cons_append, List.map_cons, List.map_nil, lq_tr, lq_trL]
    try rfl
  refine lq_call hx0 mq238 (hlink := by decide +kernel) rfl rfl (by rw [lq_len]; decide) (Nat.le_of_ble_eq_true rfl) dl710 hl.1 hc1 hc2 oS1 (fun v hv => by
      simp only [List.mem_cons, List.not_mem_nil, or_false] at hv
      rcases hv with rfl | rfl | rfl | rfl <;> first | exact in32_of _ | exact in64_of _ | exact ⟨by decide, by decide⟩) hP hS hcall2 (fun r σ2 H2 locs2 hq oS2 okr2 hP2 hS2 => ?_)
  obtain ⟨⟨z2, h1, rfl⟩, hI2⟩ := hq
  cases h1
  refine W.eq (g2 := F0 m 713 ls [.int (i32 z), .int (i32 z)]) rfl ?_
  exact lv_icmp_eq (tgt := 1488) hex hb dl713 (by decide) (fun _ => K σ2 H2 locs2 hI2 oS2 hP2 hS2) (fun q9 => absurd rfl q9)
set_option maxHeartbeats 4000000 in
theorem lq_c16 (hx : lq_Cx D ad cA fm p s m meth c b L xs) (hL : L ≤ 3072) {I : Nat → mw_S → Prop} (hag : ag_states I) {n i : Nat} {x3 : Int32} (ex : x3 = nI i) (hi : i + 6 ≤ L) (hn : n < 512) {σ : mw_S} (hI : I n σ) (oS : mw_okS σ) {H : Heap} {locs : List Loc} {ls : Array Slot} (hP : va_P D vwCl (mw_ws ad cA σ) H) (hS : va_S (mw_A ad s.heap.size) s.heap H locs) (hl : lv_has ls 4 (lq_lv ad b x3)) {cells slots : Nat} (hc1 : cells ≤ 600000) (hc2 : slots ≤ 7302250)
    (K : ∀ (σ' : mw_S) (H' : Heap) (locs' : List Loc), I (n + 1) σ' → mw_okS σ' → va_P D vwCl (mw_ws ad cA σ') H' → va_S (mw_A ad s.heap.size) s.heap H' locs' → W p l e room_1 s m #[Value.ref b] below meth c H' locs' cells slots Qm (F0 m 1488 ls [])) : W p l e room_1 s m #[Value.ref b] below meth c H locs cells slots Qm (F0 m 718 ls []) := by
  have hx0 := hx
  obtain ⟨⟨hex, hb, hr, hml, hown, hts, hX, hbl, hlocks, hgv⟩, hK, hCs, hfm, hinj, hlo⟩ := hx
  have hbA : ¬ mw_A ad s.heap.size b := fun q => by
    rcases q with ⟨k, h1, h2⟩ | q
    · have := hlo k h1
      omega
    · omega
  have h_1 : vp_in (x3 + 1) L := by rw [ex, show (1 : Int32) = nI 1 from rfl, nI_add]; exact vp_in_nI (by omega) (by omega)
  obtain ⟨w1, ew1⟩ : ∃ y : Int32, y = xs (x3 + 1).toNatClampNeg := ⟨_, rfl⟩
  have h_2 : vp_in (x3 + 2) L := by rw [ex, show (2 : Int32) = nI 2 from rfl, nI_add]; exact vp_in_nI (by omega) (by omega)
  obtain ⟨w2, ew2⟩ : ∃ y : Int32, y = xs (x3 + 2).toNatClampNeg := ⟨_, rfl⟩
  refine lv_aload_n hex hb dl718 rfl (lv_at hl 1 rfl) ?_
  refine lv_aload_n hex hb dl719 rfl (lv_at hl 0 rfl) ?_
  refine lv_iload_n hex hb dl720 rfl (lv_at hl 3 rfl) ?_
  refine lv_iconst (v := 1) hex hb dl721 (by decide) ?_
  refine lv_iadd hex hb dl722 ?_
  refine va_sld hex hb hX hbl hbA hS h_1 dl723 ?_
  rw [← ew1]
  refine lv_aload_n hex hb dl724 rfl (lv_at hl 0 rfl) ?_
  refine lv_iload_n hex hb dl725 rfl (lv_at hl 3 rfl) ?_
  refine lv_iconst (v := 2) hex hb dl726 (by decide) ?_
  refine lv_iadd hex hb dl727 ?_
  refine va_sld hex hb hX hbl hbA hS h_2 dl728 ?_
  rw [← ew2]
  refine W.eq (g2 := F0 m 729 ls (([jI w1.toInt, jI w2.toInt].reverse ++ jR 0 :: []).map (mw_tr ad fm))) ?_ ?_
  · simp only [List.reverse_cons, List.reverse_nil, List.nil_append, List.cons_append, List.map_cons, List.map_nil, lq_tr, lq_trL]
    try rfl
  have hcall := hag n σ (w1.toInt) (w2.toInt) hn hI oS (in32_of _) (in32_of _)
  refine lq_call hx0 mq135 (hlink := by decide +kernel) rfl rfl (by rw [lq_len]; decide) (Nat.le_of_ble_eq_true rfl) dl729 hl.1 hc1 hc2 oS (fun v hv => by
      simp only [List.mem_cons, List.not_mem_nil, or_false] at hv
      rcases hv with rfl | rfl <;> first | exact in32_of _ | exact in64_of _ | exact ⟨by decide, by decide⟩) hP hS hcall (fun r σ1 H1 locs1 hcall2 oS1 okr hP1 hS1 => ?_)
  clear hP hS
  have hP := hP1
  have hS := hS1
  have hr1 : ∃ z, r = some (jI z) := by
    obtain ⟨r2, s2, -, ⟨z, h1, -⟩, -⟩ := hcall2
    exact ⟨z, h1⟩
  obtain ⟨z, rfl⟩ := hr1
  refine W.eq (g2 := F0 m 732 ls [mw_tr ad fm (jI z)]) rfl ?_
  refine lv_aload_n hex hb dl732 rfl (lv_at hl 2 rfl) ?_
  refine lv_aload_n hex hb dl733 rfl (lv_at hl 0 rfl) ?_
  refine lv_iload_n hex hb dl734 rfl (lv_at hl 3 rfl) ?_
  refine lv_iconst (v := 1) hex hb dl735 (by decide) ?_
  refine lv_iadd hex hb dl736 ?_
  refine va_sld hex hb hX hbl hbA hS h_1 dl737 ?_
  rw [← ew1]
  refine lv_aload_n hex hb dl738 rfl (lv_at hl 0 rfl) ?_
  refine lv_iload_n hex hb dl739 rfl (lv_at hl 3 rfl) ?_
  refine lv_iconst (v := 2) hex hb dl740 (by decide) ?_
  refine lv_iadd hex hb dl741 ?_
  refine va_sld hex hb hX hbl hbA hS h_2 dl742 ?_
  rw [← ew2]
  refine W.eq (g2 := F0 m 743 ls (([jI w1.toInt, jI w2.toInt].reverse ++ jR 100 :: [jI z]).map (mw_tr ad fm))) ?_ ?_
  · simp only [List.reverse_cons, List.reverse_nil, List.nil_append, List.cons_append, List.map_cons, List.map_nil, lq_tr, lq_trL]
    try rfl
  refine lq_call hx0 mq240 (hlink := by decide +kernel) rfl rfl (by rw [lq_len]; decide) (Nat.le_of_ble_eq_true rfl) dl743 hl.1 hc1 hc2 oS1 (fun v hv => by
      simp only [List.mem_cons, List.not_mem_nil, or_false] at hv
      rcases hv with rfl | rfl <;> first | exact in32_of _ | exact in64_of _ | exact ⟨by decide, by decide⟩) hP hS hcall2 (fun r σ2 H2 locs2 hq oS2 okr2 hP2 hS2 => ?_)
  obtain ⟨⟨z2, h1, rfl⟩, hI2⟩ := hq
  cases h1
  refine W.eq (g2 := F0 m 746 ls [.int (i32 z), .int (i32 z)]) rfl ?_
  exact lv_icmp_eq (tgt := 1488) hex hb dl746 (by decide) (fun _ => K σ2 H2 locs2 hI2 oS2 hP2 hS2) (fun q9 => absurd rfl q9)
set_option maxHeartbeats 4000000 in
theorem lq_c17 (hx : lq_Cx D ad cA fm p s m meth c b L xs) (hL : L ≤ 3072) {I : Nat → mw_S → Prop} (hag : ag_reach I) {n i : Nat} {x3 : Int32} (ex : x3 = nI i) (hi : i + 6 ≤ L) (hn : n < 512) {σ : mw_S} (hI : I n σ) (oS : mw_okS σ) {H : Heap} {locs : List Loc} {ls : Array Slot} (hP : va_P D vwCl (mw_ws ad cA σ) H) (hS : va_S (mw_A ad s.heap.size) s.heap H locs) (hl : lv_has ls 4 (lq_lv ad b x3)) {cells slots : Nat} (hc1 : cells ≤ 600000) (hc2 : slots ≤ 7302250)
    (K : ∀ (σ' : mw_S) (H' : Heap) (locs' : List Loc), I (n + 1) σ' → mw_okS σ' → va_P D vwCl (mw_ws ad cA σ') H' → va_S (mw_A ad s.heap.size) s.heap H' locs' → W p l e room_1 s m #[Value.ref b] below meth c H' locs' cells slots Qm (F0 m 1488 ls [])) : W p l e room_1 s m #[Value.ref b] below meth c H locs cells slots Qm (F0 m 751 ls []) := by
  have hx0 := hx
  obtain ⟨⟨hex, hb, hr, hml, hown, hts, hX, hbl, hlocks, hgv⟩, hK, hCs, hfm, hinj, hlo⟩ := hx
  have hbA : ¬ mw_A ad s.heap.size b := fun q => by
    rcases q with ⟨k, h1, h2⟩ | q
    · have := hlo k h1
      omega
    · omega
  have h_1 : vp_in (x3 + 1) L := by rw [ex, show (1 : Int32) = nI 1 from rfl, nI_add]; exact vp_in_nI (by omega) (by omega)
  obtain ⟨w1, ew1⟩ : ∃ y : Int32, y = xs (x3 + 1).toNatClampNeg := ⟨_, rfl⟩
  have h_2 : vp_in (x3 + 2) L := by rw [ex, show (2 : Int32) = nI 2 from rfl, nI_add]; exact vp_in_nI (by omega) (by omega)
  obtain ⟨w2, ew2⟩ : ∃ y : Int32, y = xs (x3 + 2).toNatClampNeg := ⟨_, rfl⟩
  refine lv_aload_n hex hb dl751 rfl (lv_at hl 1 rfl) ?_
  refine lv_aload_n hex hb dl752 rfl (lv_at hl 0 rfl) ?_
  refine lv_iload_n hex hb dl753 rfl (lv_at hl 3 rfl) ?_
  refine lv_iconst (v := 1) hex hb dl754 (by decide) ?_
  refine lv_iadd hex hb dl755 ?_
  refine va_sld hex hb hX hbl hbA hS h_1 dl756 ?_
  rw [← ew1]
  refine lv_aload_n hex hb dl757 rfl (lv_at hl 0 rfl) ?_
  refine lv_iload_n hex hb dl758 rfl (lv_at hl 3 rfl) ?_
  refine lv_iconst (v := 2) hex hb dl759 (by decide) ?_
  refine lv_iadd hex hb dl760 ?_
  refine va_sld hex hb hX hbl hbA hS h_2 dl761 ?_
  rw [← ew2]
  refine W.eq (g2 := F0 m 762 ls (([jI w1.toInt, jI w2.toInt].reverse ++ jR 0 :: []).map (mw_tr ad fm))) ?_ ?_
  · simp only [List.reverse_cons, List.reverse_nil, List.nil_append, List.cons_append, List.map_cons, List.map_nil, lq_tr, lq_trL]
    try rfl
  have hcall := hag n σ (w1.toInt) (w2.toInt) hn hI oS (in32_of _) (in32_of _)
  refine lq_call hx0 mq136 (hlink := by decide +kernel) rfl rfl (by rw [lq_len]; decide) (Nat.le_of_ble_eq_true rfl) dl762 hl.1 hc1 hc2 oS (fun v hv => by
      simp only [List.mem_cons, List.not_mem_nil, or_false] at hv
      rcases hv with rfl | rfl <;> first | exact in32_of _ | exact in64_of _ | exact ⟨by decide, by decide⟩) hP hS hcall (fun r σ1 H1 locs1 hcall2 oS1 okr hP1 hS1 => ?_)
  clear hP hS
  have hP := hP1
  have hS := hS1
  have hr1 : ∃ z, r = some (jI z) := by
    obtain ⟨r2, s2, -, ⟨z, h1, -⟩, -⟩ := hcall2
    exact ⟨z, h1⟩
  obtain ⟨z, rfl⟩ := hr1
  refine W.eq (g2 := F0 m 765 ls [mw_tr ad fm (jI z)]) rfl ?_
  refine lv_aload_n hex hb dl765 rfl (lv_at hl 2 rfl) ?_
  refine lv_aload_n hex hb dl766 rfl (lv_at hl 0 rfl) ?_
  refine lv_iload_n hex hb dl767 rfl (lv_at hl 3 rfl) ?_
  refine lv_iconst (v := 1) hex hb dl768 (by decide) ?_
  refine lv_iadd hex hb dl769 ?_
  refine va_sld hex hb hX hbl hbA hS h_1 dl770 ?_
  rw [← ew1]
  refine lv_aload_n hex hb dl771 rfl (lv_at hl 0 rfl) ?_
  refine lv_iload_n hex hb dl772 rfl (lv_at hl 3 rfl) ?_
  refine lv_iconst (v := 2) hex hb dl773 (by decide) ?_
  refine lv_iadd hex hb dl774 ?_
  refine va_sld hex hb hX hbl hbA hS h_2 dl775 ?_
  rw [← ew2]
  refine W.eq (g2 := F0 m 776 ls (([jI w1.toInt, jI w2.toInt].reverse ++ jR 100 :: [jI z]).map (mw_tr ad fm))) ?_ ?_
  · simp only [List.reverse_cons, List.reverse_nil, List.nil_append, List.cons_append, List.map_cons, List.map_nil, lq_tr, lq_trL]
    try rfl
  refine lq_call hx0 mq241 (hlink := by decide +kernel) rfl rfl (by rw [lq_len]; decide) (Nat.le_of_ble_eq_true rfl) dl776 hl.1 hc1 hc2 oS1 (fun v hv => by
      simp only [List.mem_cons, List.not_mem_nil, or_false] at hv
      rcases hv with rfl | rfl <;> first | exact in32_of _ | exact in64_of _ | exact ⟨by decide, by decide⟩) hP hS hcall2 (fun r σ2 H2 locs2 hq oS2 okr2 hP2 hS2 => ?_)
  obtain ⟨⟨z2, h1, rfl⟩, hI2⟩ := hq
  cases h1
  refine W.eq (g2 := F0 m 779 ls [.int (i32 z), .int (i32 z)]) rfl ?_
  exact lv_icmp_eq (tgt := 1488) hex hb dl779 (by decide) (fun _ => K σ2 H2 locs2 hI2 oS2 hP2 hS2) (fun q9 => absurd rfl q9)
set_option maxHeartbeats 4000000 in
theorem lq_c18 (hx : lq_Cx D ad cA fm p s m meth c b L xs) (hL : L ≤ 3072) {I : Nat → mw_S → Prop} (hag : ag_fits I) {n i : Nat} {x3 : Int32} (ex : x3 = nI i) (hi : i + 6 ≤ L) (hn : n < 512) {σ : mw_S} (hI : I n σ) (oS : mw_okS σ) {H : Heap} {locs : List Loc} {ls : Array Slot} (hP : va_P D vwCl (mw_ws ad cA σ) H) (hS : va_S (mw_A ad s.heap.size) s.heap H locs) (hl : lv_has ls 4 (lq_lv ad b x3)) {cells slots : Nat} (hc1 : cells ≤ 600000) (hc2 : slots ≤ 7302250)
    (K : ∀ (σ' : mw_S) (H' : Heap) (locs' : List Loc), I (n + 1) σ' → mw_okS σ' → va_P D vwCl (mw_ws ad cA σ') H' → va_S (mw_A ad s.heap.size) s.heap H' locs' → W p l e room_1 s m #[Value.ref b] below meth c H' locs' cells slots Qm (F0 m 1488 ls [])) : W p l e room_1 s m #[Value.ref b] below meth c H locs cells slots Qm (F0 m 784 ls []) := by
  have hx0 := hx
  obtain ⟨⟨hex, hb, hr, hml, hown, hts, hX, hbl, hlocks, hgv⟩, hK, hCs, hfm, hinj, hlo⟩ := hx
  have hbA : ¬ mw_A ad s.heap.size b := fun q => by
    rcases q with ⟨k, h1, h2⟩ | q
    · have := hlo k h1
      omega
    · omega
  have h_1 : vp_in (x3 + 1) L := by rw [ex, show (1 : Int32) = nI 1 from rfl, nI_add]; exact vp_in_nI (by omega) (by omega)
  obtain ⟨w1, ew1⟩ : ∃ y : Int32, y = xs (x3 + 1).toNatClampNeg := ⟨_, rfl⟩
  refine lv_aload_n hex hb dl784 rfl (lv_at hl 1 rfl) ?_
  refine lv_aload_n hex hb dl785 rfl (lv_at hl 0 rfl) ?_
  refine lv_iload_n hex hb dl786 rfl (lv_at hl 3 rfl) ?_
  refine lv_iconst (v := 1) hex hb dl787 (by decide) ?_
  refine lv_iadd hex hb dl788 ?_
  refine va_sld hex hb hX hbl hbA hS h_1 dl789 ?_
  rw [← ew1]
  refine W.eq (g2 := F0 m 790 ls (([jI w1.toInt].reverse ++ jR 0 :: []).map (mw_tr ad fm))) ?_ ?_
  · simp only [List.reverse_cons, List.reverse_nil, List.nil_append, List.cons_append, List.map_cons, List.map_nil, lq_tr, lq_trL]
    try rfl
  have hcall := hag n σ (w1.toInt) hn hI oS (in32_of _)
  refine lq_call hx0 mq137 (hlink := by decide +kernel) rfl rfl (by rw [lq_len]; decide) (Nat.le_of_ble_eq_true rfl) dl790 hl.1 hc1 hc2 oS (fun v hv => by
      simp only [List.mem_cons, List.not_mem_nil, or_false] at hv
      rcases hv with rfl <;> first | exact in32_of _ | exact in64_of _ | exact ⟨by decide, by decide⟩) hP hS hcall (fun r σ1 H1 locs1 hcall2 oS1 okr hP1 hS1 => ?_)
  clear hP hS
  have hP := hP1
  have hS := hS1
  have hr1 : ∃ z, r = some (jI z) := by
    obtain ⟨r2, s2, -, ⟨z, h1, -⟩, -⟩ := hcall2
    exact ⟨z, h1⟩
  obtain ⟨z, rfl⟩ := hr1
  refine W.eq (g2 := F0 m 793 ls [mw_tr ad fm (jI z)]) rfl ?_
  refine lv_aload_n hex hb dl793 rfl (lv_at hl 2 rfl) ?_
  refine lv_aload_n hex hb dl794 rfl (lv_at hl 0 rfl) ?_
  refine lv_iload_n hex hb dl795 rfl (lv_at hl 3 rfl) ?_
  refine lv_iconst (v := 1) hex hb dl796 (by decide) ?_
  refine lv_iadd hex hb dl797 ?_
  refine va_sld hex hb hX hbl hbA hS h_1 dl798 ?_
  rw [← ew1]
  refine W.eq (g2 := F0 m 799 ls (([jI w1.toInt].reverse ++ jR 100 :: [jI z]).map (mw_tr ad fm))) ?_ ?_
  · simp only [List.reverse_cons, List.reverse_nil, List.nil_append, List.cons_append, List.map_cons, List.map_nil, lq_tr, lq_trL]
    try rfl
  refine lq_call hx0 mq247 (hlink := by decide +kernel) rfl rfl (by rw [lq_len]; decide) (Nat.le_of_ble_eq_true rfl) dl799 hl.1 hc1 hc2 oS1 (fun v hv => by
      simp only [List.mem_cons, List.not_mem_nil, or_false] at hv
      rcases hv with rfl <;> first | exact in32_of _ | exact in64_of _ | exact ⟨by decide, by decide⟩) hP hS hcall2 (fun r σ2 H2 locs2 hq oS2 okr2 hP2 hS2 => ?_)
  obtain ⟨⟨z2, h1, rfl⟩, hI2⟩ := hq
  cases h1
  refine W.eq (g2 := F0 m 802 ls [.int (i32 z), .int (i32 z)]) rfl ?_
  exact lv_icmp_eq (tgt := 1488) hex hb dl802 (by decide) (fun _ => K σ2 H2 locs2 hI2 oS2 hP2 hS2) (fun q9 => absurd rfl q9)
set_option maxHeartbeats 4000000 in
theorem lq_c19 (hx : lq_Cx D ad cA fm p s m meth c b L xs) (hL : L ≤ 3072) {I : Nat → mw_S → Prop} (hag : ag_smallest I) {n i : Nat} {x3 : Int32} (ex : x3 = nI i) (hi : i + 6 ≤ L) (hn : n < 512) {σ : mw_S} (hI : I n σ) (oS : mw_okS σ) {H : Heap} {locs : List Loc} {ls : Array Slot} (hP : va_P D vwCl (mw_ws ad cA σ) H) (hS : va_S (mw_A ad s.heap.size) s.heap H locs) (hl : lv_has ls 4 (lq_lv ad b x3)) {cells slots : Nat} (hc1 : cells ≤ 600000) (hc2 : slots ≤ 7302250)
    (K : ∀ (σ' : mw_S) (H' : Heap) (locs' : List Loc), I (n + 1) σ' → mw_okS σ' → va_P D vwCl (mw_ws ad cA σ') H' → va_S (mw_A ad s.heap.size) s.heap H' locs' → W p l e room_1 s m #[Value.ref b] below meth c H' locs' cells slots Qm (F0 m 1488 ls [])) : W p l e room_1 s m #[Value.ref b] below meth c H locs cells slots Qm (F0 m 807 ls []) := by
  have hx0 := hx
  obtain ⟨⟨hex, hb, hr, hml, hown, hts, hX, hbl, hlocks, hgv⟩, hK, hCs, hfm, hinj, hlo⟩ := hx
  have hbA : ¬ mw_A ad s.heap.size b := fun q => by
    rcases q with ⟨k, h1, h2⟩ | q
    · have := hlo k h1
      omega
    · omega
  have h_1 : vp_in (x3 + 1) L := by rw [ex, show (1 : Int32) = nI 1 from rfl, nI_add]; exact vp_in_nI (by omega) (by omega)
  obtain ⟨w1, ew1⟩ : ∃ y : Int32, y = xs (x3 + 1).toNatClampNeg := ⟨_, rfl⟩
  have h_2 : vp_in (x3 + 2) L := by rw [ex, show (2 : Int32) = nI 2 from rfl, nI_add]; exact vp_in_nI (by omega) (by omega)
  obtain ⟨w2, ew2⟩ : ∃ y : Int32, y = xs (x3 + 2).toNatClampNeg := ⟨_, rfl⟩
  refine lv_aload_n hex hb dl807 rfl (lv_at hl 1 rfl) ?_
  refine lv_aload_n hex hb dl808 rfl (lv_at hl 0 rfl) ?_
  refine lv_iload_n hex hb dl809 rfl (lv_at hl 3 rfl) ?_
  refine lv_iconst (v := 1) hex hb dl810 (by decide) ?_
  refine lv_iadd hex hb dl811 ?_
  refine va_sld hex hb hX hbl hbA hS h_1 dl812 ?_
  rw [← ew1]
  refine lv_aload_n hex hb dl813 rfl (lv_at hl 0 rfl) ?_
  refine lv_iload_n hex hb dl814 rfl (lv_at hl 3 rfl) ?_
  refine lv_iconst (v := 2) hex hb dl815 (by decide) ?_
  refine lv_iadd hex hb dl816 ?_
  refine va_sld hex hb hX hbl hbA hS h_2 dl817 ?_
  rw [← ew2]
  refine W.eq (g2 := F0 m 818 ls (([jI w1.toInt, jI w2.toInt].reverse ++ jR 0 :: []).map (mw_tr ad fm))) ?_ ?_
  · simp only [List.reverse_cons, List.reverse_nil, List.nil_append, List.cons_append, List.map_cons, List.map_nil, lq_tr, lq_trL]
    try rfl
  have hcall := hag n σ (w1.toInt) (w2.toInt) hn hI oS (in32_of _) (in32_of _)
  refine lq_call hx0 mq138 (hlink := by decide +kernel) rfl rfl (by rw [lq_len]; decide) (Nat.le_of_ble_eq_true rfl) dl818 hl.1 hc1 hc2 oS (fun v hv => by
      simp only [List.mem_cons, List.not_mem_nil, or_false] at hv
      rcases hv with rfl | rfl <;> first | exact in32_of _ | exact in64_of _ | exact ⟨by decide, by decide⟩) hP hS hcall (fun r σ1 H1 locs1 hcall2 oS1 okr hP1 hS1 => ?_)
  clear hP hS
  have hP := hP1
  have hS := hS1
  have hr1 : ∃ z, r = some (jI z) := by
    obtain ⟨r2, s2, -, ⟨z, h1, -⟩, -⟩ := hcall2
    exact ⟨z, h1⟩
  obtain ⟨z, rfl⟩ := hr1
  refine W.eq (g2 := F0 m 821 ls [mw_tr ad fm (jI z)]) rfl ?_
  refine lv_aload_n hex hb dl821 rfl (lv_at hl 2 rfl) ?_
  refine lv_aload_n hex hb dl822 rfl (lv_at hl 0 rfl) ?_
  refine lv_iload_n hex hb dl823 rfl (lv_at hl 3 rfl) ?_
  refine lv_iconst (v := 1) hex hb dl824 (by decide) ?_
  refine lv_iadd hex hb dl825 ?_
  refine va_sld hex hb hX hbl hbA hS h_1 dl826 ?_
  rw [← ew1]
  refine lv_aload_n hex hb dl827 rfl (lv_at hl 0 rfl) ?_
  refine lv_iload_n hex hb dl828 rfl (lv_at hl 3 rfl) ?_
  refine lv_iconst (v := 2) hex hb dl829 (by decide) ?_
  refine lv_iadd hex hb dl830 ?_
  refine va_sld hex hb hX hbl hbA hS h_2 dl831 ?_
  rw [← ew2]
  refine W.eq (g2 := F0 m 832 ls (([jI w1.toInt, jI w2.toInt].reverse ++ jR 100 :: [jI z]).map (mw_tr ad fm))) ?_ ?_
  · simp only [List.reverse_cons, List.reverse_nil, List.nil_append, List.cons_append, List.map_cons, List.map_nil, lq_tr, lq_trL]
    try rfl
  refine lq_call hx0 mq249 (hlink := by decide +kernel) rfl rfl (by rw [lq_len]; decide) (Nat.le_of_ble_eq_true rfl) dl832 hl.1 hc1 hc2 oS1 (fun v hv => by
      simp only [List.mem_cons, List.not_mem_nil, or_false] at hv
      rcases hv with rfl | rfl <;> first | exact in32_of _ | exact in64_of _ | exact ⟨by decide, by decide⟩) hP hS hcall2 (fun r σ2 H2 locs2 hq oS2 okr2 hP2 hS2 => ?_)
  obtain ⟨⟨z2, h1, rfl⟩, hI2⟩ := hq
  cases h1
  refine W.eq (g2 := F0 m 835 ls [.int (i32 z), .int (i32 z)]) rfl ?_
  exact lv_icmp_eq (tgt := 1488) hex hb dl835 (by decide) (fun _ => K σ2 H2 locs2 hI2 oS2 hP2 hS2) (fun q9 => absurd rfl q9)
set_option maxHeartbeats 4000000 in
theorem lq_c20 (hx : lq_Cx D ad cA fm p s m meth c b L xs) (hL : L ≤ 3072) {I : Nat → mw_S → Prop} (hag : ag_sure I) {n i : Nat} {x3 : Int32} (ex : x3 = nI i) (hi : i + 6 ≤ L) (hn : n < 512) {σ : mw_S} (hI : I n σ) (oS : mw_okS σ) {H : Heap} {locs : List Loc} {ls : Array Slot} (hP : va_P D vwCl (mw_ws ad cA σ) H) (hS : va_S (mw_A ad s.heap.size) s.heap H locs) (hl : lv_has ls 4 (lq_lv ad b x3)) {cells slots : Nat} (hc1 : cells ≤ 600000) (hc2 : slots ≤ 7302250)
    (K : ∀ (σ' : mw_S) (H' : Heap) (locs' : List Loc), I (n + 1) σ' → mw_okS σ' → va_P D vwCl (mw_ws ad cA σ') H' → va_S (mw_A ad s.heap.size) s.heap H' locs' → W p l e room_1 s m #[Value.ref b] below meth c H' locs' cells slots Qm (F0 m 1488 ls [])) : W p l e room_1 s m #[Value.ref b] below meth c H locs cells slots Qm (F0 m 840 ls []) := by
  have hx0 := hx
  obtain ⟨⟨hex, hb, hr, hml, hown, hts, hX, hbl, hlocks, hgv⟩, hK, hCs, hfm, hinj, hlo⟩ := hx
  have hbA : ¬ mw_A ad s.heap.size b := fun q => by
    rcases q with ⟨k, h1, h2⟩ | q
    · have := hlo k h1
      omega
    · omega
  have h_1 : vp_in (x3 + 1) L := by rw [ex, show (1 : Int32) = nI 1 from rfl, nI_add]; exact vp_in_nI (by omega) (by omega)
  obtain ⟨w1, ew1⟩ : ∃ y : Int32, y = xs (x3 + 1).toNatClampNeg := ⟨_, rfl⟩
  refine lv_aload_n hex hb dl840 rfl (lv_at hl 1 rfl) ?_
  refine lv_aload_n hex hb dl841 rfl (lv_at hl 0 rfl) ?_
  refine lv_iload_n hex hb dl842 rfl (lv_at hl 3 rfl) ?_
  refine lv_iconst (v := 1) hex hb dl843 (by decide) ?_
  refine lv_iadd hex hb dl844 ?_
  refine va_sld hex hb hX hbl hbA hS h_1 dl845 ?_
  rw [← ew1]
  refine W.eq (g2 := F0 m 846 ls (([jI w1.toInt].reverse ++ jR 0 :: []).map (mw_tr ad fm))) ?_ ?_
  · simp only [List.reverse_cons, List.reverse_nil, List.nil_append, List.cons_append, List.map_cons, List.map_nil, lq_tr, lq_trL]
    try rfl
  have hcall := hag n σ (w1.toInt) hn hI oS (in32_of _)
  refine lq_call hx0 mq139 (hlink := by decide +kernel) rfl rfl (by rw [lq_len]; decide) (Nat.le_of_ble_eq_true rfl) dl846 hl.1 hc1 hc2 oS (fun v hv => by
      simp only [List.mem_cons, List.not_mem_nil, or_false] at hv
      rcases hv with rfl <;> first | exact in32_of _ | exact in64_of _ | exact ⟨by decide, by decide⟩) hP hS hcall (fun r σ1 H1 locs1 hcall2 oS1 okr hP1 hS1 => ?_)
  clear hP hS
  have hP := hP1
  have hS := hS1
  have hr1 : ∃ z, r = some (jI z) := by
    obtain ⟨r2, s2, -, ⟨z, h1, -⟩, -⟩ := hcall2
    exact ⟨z, h1⟩
  obtain ⟨z, rfl⟩ := hr1
  refine W.eq (g2 := F0 m 849 ls [mw_tr ad fm (jI z)]) rfl ?_
  refine lv_aload_n hex hb dl849 rfl (lv_at hl 2 rfl) ?_
  refine lv_aload_n hex hb dl850 rfl (lv_at hl 0 rfl) ?_
  refine lv_iload_n hex hb dl851 rfl (lv_at hl 3 rfl) ?_
  refine lv_iconst (v := 1) hex hb dl852 (by decide) ?_
  refine lv_iadd hex hb dl853 ?_
  refine va_sld hex hb hX hbl hbA hS h_1 dl854 ?_
  rw [← ew1]
  refine W.eq (g2 := F0 m 855 ls (([jI w1.toInt].reverse ++ jR 100 :: [jI z]).map (mw_tr ad fm))) ?_ ?_
  · simp only [List.reverse_cons, List.reverse_nil, List.nil_append, List.cons_append, List.map_cons, List.map_nil, lq_tr, lq_trL]
    try rfl
  refine lq_call hx0 mq250 (hlink := by decide +kernel) rfl rfl (by rw [lq_len]; decide) (Nat.le_of_ble_eq_true rfl) dl855 hl.1 hc1 hc2 oS1 (fun v hv => by
      simp only [List.mem_cons, List.not_mem_nil, or_false] at hv
      rcases hv with rfl <;> first | exact in32_of _ | exact in64_of _ | exact ⟨by decide, by decide⟩) hP hS hcall2 (fun r σ2 H2 locs2 hq oS2 okr2 hP2 hS2 => ?_)
  obtain ⟨⟨z2, h1, rfl⟩, hI2⟩ := hq
  cases h1
  refine W.eq (g2 := F0 m 858 ls [.int (i32 z), .int (i32 z)]) rfl ?_
  exact lv_icmp_eq (tgt := 1488) hex hb dl858 (by decide) (fun _ => K σ2 H2 locs2 hI2 oS2 hP2 hS2) (fun q9 => absurd rfl q9)
set_option maxHeartbeats 4000000 in
theorem lq_c21 (hx : lq_Cx D ad cA fm p s m meth c b L xs) (hL : L ≤ 3072) {I : Nat → mw_S → Prop} (hag : ag_telling I) {n i : Nat} {x3 : Int32} (ex : x3 = nI i) (hi : i + 6 ≤ L) (hn : n < 512) {σ : mw_S} (hI : I n σ) (oS : mw_okS σ) {H : Heap} {locs : List Loc} {ls : Array Slot} (hP : va_P D vwCl (mw_ws ad cA σ) H) (hS : va_S (mw_A ad s.heap.size) s.heap H locs) (hl : lv_has ls 4 (lq_lv ad b x3)) {cells slots : Nat} (hc1 : cells ≤ 600000) (hc2 : slots ≤ 7302250)
    (K : ∀ (σ' : mw_S) (H' : Heap) (locs' : List Loc), I (n + 1) σ' → mw_okS σ' → va_P D vwCl (mw_ws ad cA σ') H' → va_S (mw_A ad s.heap.size) s.heap H' locs' → W p l e room_1 s m #[Value.ref b] below meth c H' locs' cells slots Qm (F0 m 1488 ls [])) : W p l e room_1 s m #[Value.ref b] below meth c H locs cells slots Qm (F0 m 863 ls []) := by
  have hx0 := hx
  obtain ⟨⟨hex, hb, hr, hml, hown, hts, hX, hbl, hlocks, hgv⟩, hK, hCs, hfm, hinj, hlo⟩ := hx
  have hbA : ¬ mw_A ad s.heap.size b := fun q => by
    rcases q with ⟨k, h1, h2⟩ | q
    · have := hlo k h1
      omega
    · omega
  have h_1 : vp_in (x3 + 1) L := by rw [ex, show (1 : Int32) = nI 1 from rfl, nI_add]; exact vp_in_nI (by omega) (by omega)
  obtain ⟨w1, ew1⟩ : ∃ y : Int32, y = xs (x3 + 1).toNatClampNeg := ⟨_, rfl⟩
  have h_2 : vp_in (x3 + 2) L := by rw [ex, show (2 : Int32) = nI 2 from rfl, nI_add]; exact vp_in_nI (by omega) (by omega)
  obtain ⟨w2, ew2⟩ : ∃ y : Int32, y = xs (x3 + 2).toNatClampNeg := ⟨_, rfl⟩
  refine lv_aload_n hex hb dl863 rfl (lv_at hl 1 rfl) ?_
  refine lv_aload_n hex hb dl864 rfl (lv_at hl 0 rfl) ?_
  refine lv_iload_n hex hb dl865 rfl (lv_at hl 3 rfl) ?_
  refine lv_iconst (v := 1) hex hb dl866 (by decide) ?_
  refine lv_iadd hex hb dl867 ?_
  refine va_sld hex hb hX hbl hbA hS h_1 dl868 ?_
  rw [← ew1]
  refine lv_aload_n hex hb dl869 rfl (lv_at hl 0 rfl) ?_
  refine lv_iload_n hex hb dl870 rfl (lv_at hl 3 rfl) ?_
  refine lv_iconst (v := 2) hex hb dl871 (by decide) ?_
  refine lv_iadd hex hb dl872 ?_
  refine va_sld hex hb hX hbl hbA hS h_2 dl873 ?_
  rw [← ew2]
  refine W.eq (g2 := F0 m 874 ls (([jI w1.toInt, jI w2.toInt].reverse ++ jR 0 :: []).map (mw_tr ad fm))) ?_ ?_
  · simp only [List.reverse_cons, List.reverse_nil, List.nil_append, List.cons_append, List.map_cons, List.map_nil, lq_tr, lq_trL]
    try rfl
  have hcall := hag n σ (w1.toInt) (w2.toInt) hn hI oS (in32_of _) (in32_of _)
  refine lq_call hx0 mq140 (hlink := by decide +kernel) rfl rfl (by rw [lq_len]; decide) (Nat.le_of_ble_eq_true rfl) dl874 hl.1 hc1 hc2 oS (fun v hv => by
      simp only [List.mem_cons, List.not_mem_nil, or_false] at hv
      rcases hv with rfl | rfl <;> first | exact in32_of _ | exact in64_of _ | exact ⟨by decide, by decide⟩) hP hS hcall (fun r σ1 H1 locs1 hcall2 oS1 okr hP1 hS1 => ?_)
  clear hP hS
  have hP := hP1
  have hS := hS1
  have hr1 : ∃ z, r = some (jI z) := by
    obtain ⟨r2, s2, -, ⟨z, h1, -⟩, -⟩ := hcall2
    exact ⟨z, h1⟩
  obtain ⟨z, rfl⟩ := hr1
  refine W.eq (g2 := F0 m 877 ls [mw_tr ad fm (jI z)]) rfl ?_
  refine lv_aload_n hex hb dl877 rfl (lv_at hl 2 rfl) ?_
  refine lv_aload_n hex hb dl878 rfl (lv_at hl 0 rfl) ?_
  refine lv_iload_n hex hb dl879 rfl (lv_at hl 3 rfl) ?_
  refine lv_iconst (v := 1) hex hb dl880 (by decide) ?_
  refine lv_iadd hex hb dl881 ?_
  refine va_sld hex hb hX hbl hbA hS h_1 dl882 ?_
  rw [← ew1]
  refine lv_aload_n hex hb dl883 rfl (lv_at hl 0 rfl) ?_
  refine lv_iload_n hex hb dl884 rfl (lv_at hl 3 rfl) ?_
  refine lv_iconst (v := 2) hex hb dl885 (by decide) ?_
  refine lv_iadd hex hb dl886 ?_
  refine va_sld hex hb hX hbl hbA hS h_2 dl887 ?_
  rw [← ew2]
  refine W.eq (g2 := F0 m 888 ls (([jI w1.toInt, jI w2.toInt].reverse ++ jR 100 :: [jI z]).map (mw_tr ad fm))) ?_ ?_
  · simp only [List.reverse_cons, List.reverse_nil, List.nil_append, List.cons_append, List.map_cons, List.map_nil, lq_tr, lq_trL]
    try rfl
  refine lq_call hx0 mq252 (hlink := by decide +kernel) rfl rfl (by rw [lq_len]; decide) (Nat.le_of_ble_eq_true rfl) dl888 hl.1 hc1 hc2 oS1 (fun v hv => by
      simp only [List.mem_cons, List.not_mem_nil, or_false] at hv
      rcases hv with rfl | rfl <;> first | exact in32_of _ | exact in64_of _ | exact ⟨by decide, by decide⟩) hP hS hcall2 (fun r σ2 H2 locs2 hq oS2 okr2 hP2 hS2 => ?_)
  obtain ⟨⟨z2, h1, rfl⟩, hI2⟩ := hq
  cases h1
  refine W.eq (g2 := F0 m 891 ls [.int (i32 z), .int (i32 z)]) rfl ?_
  exact lv_icmp_eq (tgt := 1488) hex hb dl891 (by decide) (fun _ => K σ2 H2 locs2 hI2 oS2 hP2 hS2) (fun q9 => absurd rfl q9)
set_option maxHeartbeats 4000000 in
theorem lq_c22 (hx : lq_Cx D ad cA fm p s m meth c b L xs) (hL : L ≤ 3072) {I : Nat → mw_S → Prop} (hag : ag_meant I) {n i : Nat} {x3 : Int32} (ex : x3 = nI i) (hi : i + 6 ≤ L) (hn : n < 512) {σ : mw_S} (hI : I n σ) (oS : mw_okS σ) {H : Heap} {locs : List Loc} {ls : Array Slot} (hP : va_P D vwCl (mw_ws ad cA σ) H) (hS : va_S (mw_A ad s.heap.size) s.heap H locs) (hl : lv_has ls 4 (lq_lv ad b x3)) {cells slots : Nat} (hc1 : cells ≤ 600000) (hc2 : slots ≤ 7302250)
    (K : ∀ (σ' : mw_S) (H' : Heap) (locs' : List Loc), I (n + 1) σ' → mw_okS σ' → va_P D vwCl (mw_ws ad cA σ') H' → va_S (mw_A ad s.heap.size) s.heap H' locs' → W p l e room_1 s m #[Value.ref b] below meth c H' locs' cells slots Qm (F0 m 1488 ls [])) : W p l e room_1 s m #[Value.ref b] below meth c H locs cells slots Qm (F0 m 896 ls []) := by
  have hx0 := hx
  obtain ⟨⟨hex, hb, hr, hml, hown, hts, hX, hbl, hlocks, hgv⟩, hK, hCs, hfm, hinj, hlo⟩ := hx
  have hbA : ¬ mw_A ad s.heap.size b := fun q => by
    rcases q with ⟨k, h1, h2⟩ | q
    · have := hlo k h1
      omega
    · omega
  have h_1 : vp_in (x3 + 1) L := by rw [ex, show (1 : Int32) = nI 1 from rfl, nI_add]; exact vp_in_nI (by omega) (by omega)
  obtain ⟨w1, ew1⟩ : ∃ y : Int32, y = xs (x3 + 1).toNatClampNeg := ⟨_, rfl⟩
  have h_2 : vp_in (x3 + 2) L := by rw [ex, show (2 : Int32) = nI 2 from rfl, nI_add]; exact vp_in_nI (by omega) (by omega)
  obtain ⟨w2, ew2⟩ : ∃ y : Int32, y = xs (x3 + 2).toNatClampNeg := ⟨_, rfl⟩
  have h_3 : vp_in (x3 + 3) L := by rw [ex, show (3 : Int32) = nI 3 from rfl, nI_add]; exact vp_in_nI (by omega) (by omega)
  obtain ⟨w3, ew3⟩ : ∃ y : Int32, y = xs (x3 + 3).toNatClampNeg := ⟨_, rfl⟩
  refine lv_aload_n hex hb dl896 rfl (lv_at hl 1 rfl) ?_
  refine lv_aload_n hex hb dl897 rfl (lv_at hl 0 rfl) ?_
  refine lv_iload_n hex hb dl898 rfl (lv_at hl 3 rfl) ?_
  refine lv_iconst (v := 1) hex hb dl899 (by decide) ?_
  refine lv_iadd hex hb dl900 ?_
  refine va_sld hex hb hX hbl hbA hS h_1 dl901 ?_
  rw [← ew1]
  refine lv_aload_n hex hb dl902 rfl (lv_at hl 0 rfl) ?_
  refine lv_iload_n hex hb dl903 rfl (lv_at hl 3 rfl) ?_
  refine lv_iconst (v := 2) hex hb dl904 (by decide) ?_
  refine lv_iadd hex hb dl905 ?_
  refine va_sld hex hb hX hbl hbA hS h_2 dl906 ?_
  rw [← ew2]
  refine lv_aload_n hex hb dl907 rfl (lv_at hl 0 rfl) ?_
  refine lv_iload_n hex hb dl908 rfl (lv_at hl 3 rfl) ?_
  refine lv_iconst (v := 3) hex hb dl909 (by decide) ?_
  refine lv_iadd hex hb dl910 ?_
  refine va_sld hex hb hX hbl hbA hS h_3 dl911 ?_
  rw [← ew3]
  refine W.eq (g2 := F0 m 912 ls (([jI w1.toInt, jI w2.toInt, jI w3.toInt].reverse ++ jR 0 :: []).map (mw_tr ad fm))) ?_ ?_
  · simp only [List.reverse_cons, List.reverse_nil, List.nil_append, List.cons_append, List.map_cons, List.map_nil, lq_tr, lq_trL]
    try rfl
  have hcall := hag n σ (w1.toInt) (w2.toInt) (w3.toInt) hn hI oS (in32_of _) (in32_of _) (in32_of _)
  refine lq_call hx0 mq141 (hlink := by decide +kernel) rfl rfl (by rw [lq_len]; decide) (Nat.le_of_ble_eq_true rfl) dl912 hl.1 hc1 hc2 oS (fun v hv => by
      simp only [List.mem_cons, List.not_mem_nil, or_false] at hv
      rcases hv with rfl | rfl | rfl <;> first | exact in32_of _ | exact in64_of _ | exact ⟨by decide, by decide⟩) hP hS hcall (fun r σ1 H1 locs1 hcall2 oS1 okr hP1 hS1 => ?_)
  clear hP hS
  have hP := hP1
  have hS := hS1
  have hr1 : ∃ z, r = some (jI z) := by
    obtain ⟨r2, s2, -, ⟨z, h1, -⟩, -⟩ := hcall2
    exact ⟨z, h1⟩
  obtain ⟨z, rfl⟩ := hr1
  refine W.eq (g2 := F0 m 915 ls [mw_tr ad fm (jI z)]) rfl ?_
  refine lv_aload_n hex hb dl915 rfl (lv_at hl 2 rfl) ?_
  refine lv_aload_n hex hb dl916 rfl (lv_at hl 0 rfl) ?_
  refine lv_iload_n hex hb dl917 rfl (lv_at hl 3 rfl) ?_
  refine lv_iconst (v := 1) hex hb dl918 (by decide) ?_
  refine lv_iadd hex hb dl919 ?_
  refine va_sld hex hb hX hbl hbA hS h_1 dl920 ?_
  rw [← ew1]
  refine lv_aload_n hex hb dl921 rfl (lv_at hl 0 rfl) ?_
  refine lv_iload_n hex hb dl922 rfl (lv_at hl 3 rfl) ?_
  refine lv_iconst (v := 2) hex hb dl923 (by decide) ?_
  refine lv_iadd hex hb dl924 ?_
  refine va_sld hex hb hX hbl hbA hS h_2 dl925 ?_
  rw [← ew2]
  refine lv_aload_n hex hb dl926 rfl (lv_at hl 0 rfl) ?_
  refine lv_iload_n hex hb dl927 rfl (lv_at hl 3 rfl) ?_
  refine lv_iconst (v := 3) hex hb dl928 (by decide) ?_
  refine lv_iadd hex hb dl929 ?_
  refine va_sld hex hb hX hbl hbA hS h_3 dl930 ?_
  rw [← ew3]
  refine W.eq (g2 := F0 m 931 ls (([jI w1.toInt, jI w2.toInt, jI w3.toInt].reverse ++ jR 100 :: [jI z]).map (mw_tr ad fm))) ?_ ?_
  · simp only [List.reverse_cons, List.reverse_nil, List.nil_append, List.cons_append, List.map_cons, List.map_nil, lq_tr, lq_trL]
    try rfl
  refine lq_call hx0 mq255 (hlink := by decide +kernel) rfl rfl (by rw [lq_len]; decide) (Nat.le_of_ble_eq_true rfl) dl931 hl.1 hc1 hc2 oS1 (fun v hv => by
      simp only [List.mem_cons, List.not_mem_nil, or_false] at hv
      rcases hv with rfl | rfl | rfl <;> first | exact in32_of _ | exact in64_of _ | exact ⟨by decide, by decide⟩) hP hS hcall2 (fun r σ2 H2 locs2 hq oS2 okr2 hP2 hS2 => ?_)
  obtain ⟨⟨z2, h1, rfl⟩, hI2⟩ := hq
  cases h1
  refine W.eq (g2 := F0 m 934 ls [.int (i32 z), .int (i32 z)]) rfl ?_
  exact lv_icmp_eq (tgt := 1488) hex hb dl934 (by decide) (fun _ => K σ2 H2 locs2 hI2 oS2 hP2 hS2) (fun q9 => absurd rfl q9)
set_option maxHeartbeats 4000000 in
theorem lq_c23 (hx : lq_Cx D ad cA fm p s m meth c b L xs) (hL : L ≤ 3072) {I : Nat → mw_S → Prop} (hag : ag_maybe I) {n i : Nat} {x3 : Int32} (ex : x3 = nI i) (hi : i + 6 ≤ L) (hn : n < 512) {σ : mw_S} (hI : I n σ) (oS : mw_okS σ) {H : Heap} {locs : List Loc} {ls : Array Slot} (hP : va_P D vwCl (mw_ws ad cA σ) H) (hS : va_S (mw_A ad s.heap.size) s.heap H locs) (hl : lv_has ls 4 (lq_lv ad b x3)) {cells slots : Nat} (hc1 : cells ≤ 600000) (hc2 : slots ≤ 7302250)
    (K : ∀ (σ' : mw_S) (H' : Heap) (locs' : List Loc), I (n + 1) σ' → mw_okS σ' → va_P D vwCl (mw_ws ad cA σ') H' → va_S (mw_A ad s.heap.size) s.heap H' locs' → W p l e room_1 s m #[Value.ref b] below meth c H' locs' cells slots Qm (F0 m 1488 ls [])) : W p l e room_1 s m #[Value.ref b] below meth c H locs cells slots Qm (F0 m 939 ls []) := by
  have hx0 := hx
  obtain ⟨⟨hex, hb, hr, hml, hown, hts, hX, hbl, hlocks, hgv⟩, hK, hCs, hfm, hinj, hlo⟩ := hx
  have hbA : ¬ mw_A ad s.heap.size b := fun q => by
    rcases q with ⟨k, h1, h2⟩ | q
    · have := hlo k h1
      omega
    · omega
  have h_1 : vp_in (x3 + 1) L := by rw [ex, show (1 : Int32) = nI 1 from rfl, nI_add]; exact vp_in_nI (by omega) (by omega)
  obtain ⟨w1, ew1⟩ : ∃ y : Int32, y = xs (x3 + 1).toNatClampNeg := ⟨_, rfl⟩
  have h_2 : vp_in (x3 + 2) L := by rw [ex, show (2 : Int32) = nI 2 from rfl, nI_add]; exact vp_in_nI (by omega) (by omega)
  obtain ⟨w2, ew2⟩ : ∃ y : Int32, y = xs (x3 + 2).toNatClampNeg := ⟨_, rfl⟩
  have h_3 : vp_in (x3 + 3) L := by rw [ex, show (3 : Int32) = nI 3 from rfl, nI_add]; exact vp_in_nI (by omega) (by omega)
  obtain ⟨w3, ew3⟩ : ∃ y : Int32, y = xs (x3 + 3).toNatClampNeg := ⟨_, rfl⟩
  refine lv_aload_n hex hb dl939 rfl (lv_at hl 1 rfl) ?_
  refine lv_aload_n hex hb dl940 rfl (lv_at hl 0 rfl) ?_
  refine lv_iload_n hex hb dl941 rfl (lv_at hl 3 rfl) ?_
  refine lv_iconst (v := 1) hex hb dl942 (by decide) ?_
  refine lv_iadd hex hb dl943 ?_
  refine va_sld hex hb hX hbl hbA hS h_1 dl944 ?_
  rw [← ew1]
  refine lv_aload_n hex hb dl945 rfl (lv_at hl 0 rfl) ?_
  refine lv_iload_n hex hb dl946 rfl (lv_at hl 3 rfl) ?_
  refine lv_iconst (v := 2) hex hb dl947 (by decide) ?_
  refine lv_iadd hex hb dl948 ?_
  refine va_sld hex hb hX hbl hbA hS h_2 dl949 ?_
  rw [← ew2]
  refine lv_aload_n hex hb dl950 rfl (lv_at hl 0 rfl) ?_
  refine lv_iload_n hex hb dl951 rfl (lv_at hl 3 rfl) ?_
  refine lv_iconst (v := 3) hex hb dl952 (by decide) ?_
  refine lv_iadd hex hb dl953 ?_
  refine va_sld hex hb hX hbl hbA hS h_3 dl954 ?_
  rw [← ew3]
  refine W.eq (g2 := F0 m 955 ls (([jI w1.toInt, jI w2.toInt, jI w3.toInt].reverse ++ jR 0 :: []).map (mw_tr ad fm))) ?_ ?_
  · simp only [List.reverse_cons, List.reverse_nil, List.nil_append, List.cons_append, List.map_cons, List.map_nil, lq_tr, lq_trL]
    try rfl
  have hcall := hag n σ (w1.toInt) (w2.toInt) (w3.toInt) hn hI oS (in32_of _) (in32_of _) (in32_of _)
  refine lq_call hx0 mq142 (hlink := by decide +kernel) rfl rfl (by rw [lq_len]; decide) (Nat.le_of_ble_eq_true rfl) dl955 hl.1 hc1 hc2 oS (fun v hv => by
      simp only [List.mem_cons, List.not_mem_nil, or_false] at hv
      rcases hv with rfl | rfl | rfl <;> first | exact in32_of _ | exact in64_of _ | exact ⟨by decide, by decide⟩) hP hS hcall (fun r σ1 H1 locs1 hcall2 oS1 okr hP1 hS1 => ?_)
  clear hP hS
  have hP := hP1
  have hS := hS1
  have hr1 : ∃ z, r = some (jI z) := by
    obtain ⟨r2, s2, -, ⟨z, h1, -⟩, -⟩ := hcall2
    exact ⟨z, h1⟩
  obtain ⟨z, rfl⟩ := hr1
  refine W.eq (g2 := F0 m 958 ls [mw_tr ad fm (jI z)]) rfl ?_
  refine lv_aload_n hex hb dl958 rfl (lv_at hl 2 rfl) ?_
  refine lv_aload_n hex hb dl959 rfl (lv_at hl 0 rfl) ?_
  refine lv_iload_n hex hb dl960 rfl (lv_at hl 3 rfl) ?_
  refine lv_iconst (v := 1) hex hb dl961 (by decide) ?_
  refine lv_iadd hex hb dl962 ?_
  refine va_sld hex hb hX hbl hbA hS h_1 dl963 ?_
  rw [← ew1]
  refine lv_aload_n hex hb dl964 rfl (lv_at hl 0 rfl) ?_
  refine lv_iload_n hex hb dl965 rfl (lv_at hl 3 rfl) ?_
  refine lv_iconst (v := 2) hex hb dl966 (by decide) ?_
  refine lv_iadd hex hb dl967 ?_
  refine va_sld hex hb hX hbl hbA hS h_2 dl968 ?_
  rw [← ew2]
  refine lv_aload_n hex hb dl969 rfl (lv_at hl 0 rfl) ?_
  refine lv_iload_n hex hb dl970 rfl (lv_at hl 3 rfl) ?_
  refine lv_iconst (v := 3) hex hb dl971 (by decide) ?_
  refine lv_iadd hex hb dl972 ?_
  refine va_sld hex hb hX hbl hbA hS h_3 dl973 ?_
  rw [← ew3]
  refine W.eq (g2 := F0 m 974 ls (([jI w1.toInt, jI w2.toInt, jI w3.toInt].reverse ++ jR 100 :: [jI z]).map (mw_tr ad fm))) ?_ ?_
  · simp only [List.reverse_cons, List.reverse_nil, List.nil_append, List.cons_append, List.map_cons, List.map_nil, lq_tr, lq_trL]
    try rfl
  refine lq_call hx0 mq256 (hlink := by decide +kernel) rfl rfl (by rw [lq_len]; decide) (Nat.le_of_ble_eq_true rfl) dl974 hl.1 hc1 hc2 oS1 (fun v hv => by
      simp only [List.mem_cons, List.not_mem_nil, or_false] at hv
      rcases hv with rfl | rfl | rfl <;> first | exact in32_of _ | exact in64_of _ | exact ⟨by decide, by decide⟩) hP hS hcall2 (fun r σ2 H2 locs2 hq oS2 okr2 hP2 hS2 => ?_)
  obtain ⟨⟨z2, h1, rfl⟩, hI2⟩ := hq
  cases h1
  refine W.eq (g2 := F0 m 977 ls [.int (i32 z), .int (i32 z)]) rfl ?_
  exact lv_icmp_eq (tgt := 1488) hex hb dl977 (by decide) (fun _ => K σ2 H2 locs2 hI2 oS2 hP2 hS2) (fun q9 => absurd rfl q9)
set_option maxHeartbeats 4000000 in
theorem lq_c24 (hx : lq_Cx D ad cA fm p s m meth c b L xs) (hL : L ≤ 3072) {I : Nat → mw_S → Prop} (hag : ag_odds I) {n i : Nat} {x3 : Int32} (ex : x3 = nI i) (hi : i + 6 ≤ L) (hn : n < 512) {σ : mw_S} (hI : I n σ) (oS : mw_okS σ) {H : Heap} {locs : List Loc} {ls : Array Slot} (hP : va_P D vwCl (mw_ws ad cA σ) H) (hS : va_S (mw_A ad s.heap.size) s.heap H locs) (hl : lv_has ls 4 (lq_lv ad b x3)) {cells slots : Nat} (hc1 : cells ≤ 600000) (hc2 : slots ≤ 7302250)
    (K : ∀ (σ' : mw_S) (H' : Heap) (locs' : List Loc), I (n + 1) σ' → mw_okS σ' → va_P D vwCl (mw_ws ad cA σ') H' → va_S (mw_A ad s.heap.size) s.heap H' locs' → W p l e room_1 s m #[Value.ref b] below meth c H' locs' cells slots Qm (F0 m 1488 ls [])) : W p l e room_1 s m #[Value.ref b] below meth c H locs cells slots Qm (F0 m 982 ls []) := by
  have hx0 := hx
  obtain ⟨⟨hex, hb, hr, hml, hown, hts, hX, hbl, hlocks, hgv⟩, hK, hCs, hfm, hinj, hlo⟩ := hx
  have hbA : ¬ mw_A ad s.heap.size b := fun q => by
    rcases q with ⟨k, h1, h2⟩ | q
    · have := hlo k h1
      omega
    · omega
  have h_1 : vp_in (x3 + 1) L := by rw [ex, show (1 : Int32) = nI 1 from rfl, nI_add]; exact vp_in_nI (by omega) (by omega)
  obtain ⟨w1, ew1⟩ : ∃ y : Int32, y = xs (x3 + 1).toNatClampNeg := ⟨_, rfl⟩
  have h_2 : vp_in (x3 + 2) L := by rw [ex, show (2 : Int32) = nI 2 from rfl, nI_add]; exact vp_in_nI (by omega) (by omega)
  obtain ⟨w2, ew2⟩ : ∃ y : Int32, y = xs (x3 + 2).toNatClampNeg := ⟨_, rfl⟩
  have h_3 : vp_in (x3 + 3) L := by rw [ex, show (3 : Int32) = nI 3 from rfl, nI_add]; exact vp_in_nI (by omega) (by omega)
  obtain ⟨w3, ew3⟩ : ∃ y : Int32, y = xs (x3 + 3).toNatClampNeg := ⟨_, rfl⟩
  refine lv_aload_n hex hb dl982 rfl (lv_at hl 1 rfl) ?_
  refine lv_aload_n hex hb dl983 rfl (lv_at hl 0 rfl) ?_
  refine lv_iload_n hex hb dl984 rfl (lv_at hl 3 rfl) ?_
  refine lv_iconst (v := 1) hex hb dl985 (by decide) ?_
  refine lv_iadd hex hb dl986 ?_
  refine va_sld hex hb hX hbl hbA hS h_1 dl987 ?_
  rw [← ew1]
  refine lv_aload_n hex hb dl988 rfl (lv_at hl 0 rfl) ?_
  refine lv_iload_n hex hb dl989 rfl (lv_at hl 3 rfl) ?_
  refine lv_iconst (v := 2) hex hb dl990 (by decide) ?_
  refine lv_iadd hex hb dl991 ?_
  refine va_sld hex hb hX hbl hbA hS h_2 dl992 ?_
  rw [← ew2]
  refine lv_aload_n hex hb dl993 rfl (lv_at hl 0 rfl) ?_
  refine lv_iload_n hex hb dl994 rfl (lv_at hl 3 rfl) ?_
  refine lv_iconst (v := 3) hex hb dl995 (by decide) ?_
  refine lv_iadd hex hb dl996 ?_
  refine va_sld hex hb hX hbl hbA hS h_3 dl997 ?_
  rw [← ew3]
  refine W.eq (g2 := F0 m 998 ls (([jI w1.toInt, jI w2.toInt, jI w3.toInt].reverse ++ jR 0 :: []).map (mw_tr ad fm))) ?_ ?_
  · simp only [List.reverse_cons, List.reverse_nil, List.nil_append, List.cons_append, List.map_cons, List.map_nil, lq_tr, lq_trL]
    try rfl
  have hcall := hag n σ (w1.toInt) (w2.toInt) (w3.toInt) hn hI oS (in32_of _) (in32_of _) (in32_of _)
  refine lq_call hx0 mq143 (hlink := by decide +kernel) rfl rfl (by rw [lq_len]; decide) (Nat.le_of_ble_eq_true rfl) dl998 hl.1 hc1 hc2 oS (fun v hv => by
      simp only [List.mem_cons, List.not_mem_nil, or_false] at hv
      rcases hv with rfl | rfl | rfl <;> first | exact in32_of _ | exact in64_of _ | exact ⟨by decide, by decide⟩) hP hS hcall (fun r σ1 H1 locs1 hcall2 oS1 okr hP1 hS1 => ?_)
  clear hP hS
  have hP := hP1
  have hS := hS1
  have hr1 : ∃ z, r = some (jL z) := by
    obtain ⟨r2, s2, -, ⟨z, h1, -⟩, -⟩ := hcall2
    exact ⟨z, h1⟩
  obtain ⟨z, rfl⟩ := hr1
  refine W.eq (g2 := F0 m 1001 ls [mw_tr ad fm (jL z)]) rfl ?_
  refine lv_aload_n hex hb dl1001 rfl (lv_at hl 2 rfl) ?_
  refine lv_aload_n hex hb dl1002 rfl (lv_at hl 0 rfl) ?_
  refine lv_iload_n hex hb dl1003 rfl (lv_at hl 3 rfl) ?_
  refine lv_iconst (v := 1) hex hb dl1004 (by decide) ?_
  refine lv_iadd hex hb dl1005 ?_
  refine va_sld hex hb hX hbl hbA hS h_1 dl1006 ?_
  rw [← ew1]
  refine lv_aload_n hex hb dl1007 rfl (lv_at hl 0 rfl) ?_
  refine lv_iload_n hex hb dl1008 rfl (lv_at hl 3 rfl) ?_
  refine lv_iconst (v := 2) hex hb dl1009 (by decide) ?_
  refine lv_iadd hex hb dl1010 ?_
  refine va_sld hex hb hX hbl hbA hS h_2 dl1011 ?_
  rw [← ew2]
  refine lv_aload_n hex hb dl1012 rfl (lv_at hl 0 rfl) ?_
  refine lv_iload_n hex hb dl1013 rfl (lv_at hl 3 rfl) ?_
  refine lv_iconst (v := 3) hex hb dl1014 (by decide) ?_
  refine lv_iadd hex hb dl1015 ?_
  refine va_sld hex hb hX hbl hbA hS h_3 dl1016 ?_
  rw [← ew3]
  refine W.eq (g2 := F0 m 1017 ls (([jI w1.toInt, jI w2.toInt, jI w3.toInt].reverse ++ jR 100 :: [jL z]).map (mw_tr ad fm))) ?_ ?_
  · simp only [List.reverse_cons, List.reverse_nil, List.nil_append, List.cons_append, List.map_cons, List.map_nil, lq_tr, lq_trL]
    try rfl
  refine lq_call hx0 mq257 (hlink := by decide +kernel) rfl rfl (by rw [lq_len]; decide) (Nat.le_of_ble_eq_true rfl) dl1017 hl.1 hc1 hc2 oS1 (fun v hv => by
      simp only [List.mem_cons, List.not_mem_nil, or_false] at hv
      rcases hv with rfl | rfl | rfl <;> first | exact in32_of _ | exact in64_of _ | exact ⟨by decide, by decide⟩) hP hS hcall2 (fun r σ2 H2 locs2 hq oS2 okr2 hP2 hS2 => ?_)
  obtain ⟨⟨z2, h1, rfl⟩, hI2⟩ := hq
  cases h1
  refine W.eq (g2 := F0 m 1020 ls [.long (i64 z), .long (i64 z)]) rfl ?_
  refine W.lcmp hex hb dl1020 ?_
  rw [lq_cmp]
  exact lv_if_eq (tgt := 1488) hex hb dl1021 (by decide) (fun _ => K σ2 H2 locs2 hI2 oS2 hP2 hS2) (fun q9 => absurd rfl q9)
set_option maxHeartbeats 4000000 in
theorem lq_c25 (hx : lq_Cx D ad cA fm p s m meth c b L xs) (hL : L ≤ 3072) {I : Nat → mw_S → Prop} (hag : ag_win I) {n i : Nat} {x3 : Int32} (ex : x3 = nI i) (hi : i + 6 ≤ L) (hn : n < 512) {σ : mw_S} (hI : I n σ) (oS : mw_okS σ) {H : Heap} {locs : List Loc} {ls : Array Slot} (hP : va_P D vwCl (mw_ws ad cA σ) H) (hS : va_S (mw_A ad s.heap.size) s.heap H locs) (hl : lv_has ls 4 (lq_lv ad b x3)) {cells slots : Nat} (hc1 : cells ≤ 600000) (hc2 : slots ≤ 7302250)
    (K : ∀ (σ' : mw_S) (H' : Heap) (locs' : List Loc), I (n + 1) σ' → mw_okS σ' → va_P D vwCl (mw_ws ad cA σ') H' → va_S (mw_A ad s.heap.size) s.heap H' locs' → W p l e room_1 s m #[Value.ref b] below meth c H' locs' cells slots Qm (F0 m 1488 ls [])) : W p l e room_1 s m #[Value.ref b] below meth c H locs cells slots Qm (F0 m 1026 ls []) := by
  have hx0 := hx
  obtain ⟨⟨hex, hb, hr, hml, hown, hts, hX, hbl, hlocks, hgv⟩, hK, hCs, hfm, hinj, hlo⟩ := hx
  have hbA : ¬ mw_A ad s.heap.size b := fun q => by
    rcases q with ⟨k, h1, h2⟩ | q
    · have := hlo k h1
      omega
    · omega
  have h_1 : vp_in (x3 + 1) L := by rw [ex, show (1 : Int32) = nI 1 from rfl, nI_add]; exact vp_in_nI (by omega) (by omega)
  obtain ⟨w1, ew1⟩ : ∃ y : Int32, y = xs (x3 + 1).toNatClampNeg := ⟨_, rfl⟩
  have h_2 : vp_in (x3 + 2) L := by rw [ex, show (2 : Int32) = nI 2 from rfl, nI_add]; exact vp_in_nI (by omega) (by omega)
  obtain ⟨w2, ew2⟩ : ∃ y : Int32, y = xs (x3 + 2).toNatClampNeg := ⟨_, rfl⟩
  have h_3 : vp_in (x3 + 3) L := by rw [ex, show (3 : Int32) = nI 3 from rfl, nI_add]; exact vp_in_nI (by omega) (by omega)
  obtain ⟨w3, ew3⟩ : ∃ y : Int32, y = xs (x3 + 3).toNatClampNeg := ⟨_, rfl⟩
  refine lv_aload_n hex hb dl1026 rfl (lv_at hl 1 rfl) ?_
  refine lv_aload_n hex hb dl1027 rfl (lv_at hl 0 rfl) ?_
  refine lv_iload_n hex hb dl1028 rfl (lv_at hl 3 rfl) ?_
  refine lv_iconst (v := 1) hex hb dl1029 (by decide) ?_
  refine lv_iadd hex hb dl1030 ?_
  refine va_sld hex hb hX hbl hbA hS h_1 dl1031 ?_
  rw [← ew1]
  refine lv_aload_n hex hb dl1032 rfl (lv_at hl 0 rfl) ?_
  refine lv_iload_n hex hb dl1033 rfl (lv_at hl 3 rfl) ?_
  refine lv_iconst (v := 2) hex hb dl1034 (by decide) ?_
  refine lv_iadd hex hb dl1035 ?_
  refine va_sld hex hb hX hbl hbA hS h_2 dl1036 ?_
  rw [← ew2]
  refine lv_aload_n hex hb dl1037 rfl (lv_at hl 0 rfl) ?_
  refine lv_iload_n hex hb dl1038 rfl (lv_at hl 3 rfl) ?_
  refine lv_iconst (v := 3) hex hb dl1039 (by decide) ?_
  refine lv_iadd hex hb dl1040 ?_
  refine va_sld hex hb hX hbl hbA hS h_3 dl1041 ?_
  rw [← ew3]
  refine W.eq (g2 := F0 m 1042 ls (([jI w1.toInt, jI w2.toInt, jI w3.toInt].reverse ++ jR 0 :: []).map (mw_tr ad fm))) ?_ ?_
  · simp only [List.reverse_cons, List.reverse_nil, List.nil_append, List.cons_append, List.map_cons, List.map_nil, lq_tr, lq_trL]
    try rfl
  have hcall := hag n σ (w1.toInt) (w2.toInt) (w3.toInt) hn hI oS (in32_of _) (in32_of _) (in32_of _)
  refine lq_call hx0 mq144 (hlink := by decide +kernel) rfl rfl (by rw [lq_len]; decide) (Nat.le_of_ble_eq_true rfl) dl1042 hl.1 hc1 hc2 oS (fun v hv => by
      simp only [List.mem_cons, List.not_mem_nil, or_false] at hv
      rcases hv with rfl | rfl | rfl <;> first | exact in32_of _ | exact in64_of _ | exact ⟨by decide, by decide⟩) hP hS hcall (fun r σ1 H1 locs1 hcall2 oS1 okr hP1 hS1 => ?_)
  clear hP hS
  have hP := hP1
  have hS := hS1
  have hr1 : ∃ z, r = some (jI z) := by
    obtain ⟨r2, s2, -, ⟨z, h1, -⟩, -⟩ := hcall2
    exact ⟨z, h1⟩
  obtain ⟨z, rfl⟩ := hr1
  refine W.eq (g2 := F0 m 1045 ls [mw_tr ad fm (jI z)]) rfl ?_
  refine lv_aload_n hex hb dl1045 rfl (lv_at hl 2 rfl) ?_
  refine lv_aload_n hex hb dl1046 rfl (lv_at hl 0 rfl) ?_
  refine lv_iload_n hex hb dl1047 rfl (lv_at hl 3 rfl) ?_
  refine lv_iconst (v := 1) hex hb dl1048 (by decide) ?_
  refine lv_iadd hex hb dl1049 ?_
  refine va_sld hex hb hX hbl hbA hS h_1 dl1050 ?_
  rw [← ew1]
  refine lv_aload_n hex hb dl1051 rfl (lv_at hl 0 rfl) ?_
  refine lv_iload_n hex hb dl1052 rfl (lv_at hl 3 rfl) ?_
  refine lv_iconst (v := 2) hex hb dl1053 (by decide) ?_
  refine lv_iadd hex hb dl1054 ?_
  refine va_sld hex hb hX hbl hbA hS h_2 dl1055 ?_
  rw [← ew2]
  refine lv_aload_n hex hb dl1056 rfl (lv_at hl 0 rfl) ?_
  refine lv_iload_n hex hb dl1057 rfl (lv_at hl 3 rfl) ?_
  refine lv_iconst (v := 3) hex hb dl1058 (by decide) ?_
  refine lv_iadd hex hb dl1059 ?_
  refine va_sld hex hb hX hbl hbA hS h_3 dl1060 ?_
  rw [← ew3]
  refine W.eq (g2 := F0 m 1061 ls (([jI w1.toInt, jI w2.toInt, jI w3.toInt].reverse ++ jR 100 :: [jI z]).map (mw_tr ad fm))) ?_ ?_
  · simp only [List.reverse_cons, List.reverse_nil, List.nil_append, List.cons_append, List.map_cons, List.map_nil, lq_tr, lq_trL]
    try rfl
  refine lq_call hx0 mq262 (hlink := by decide +kernel) rfl rfl (by rw [lq_len]; decide) (Nat.le_of_ble_eq_true rfl) dl1061 hl.1 hc1 hc2 oS1 (fun v hv => by
      simp only [List.mem_cons, List.not_mem_nil, or_false] at hv
      rcases hv with rfl | rfl | rfl <;> first | exact in32_of _ | exact in64_of _ | exact ⟨by decide, by decide⟩) hP hS hcall2 (fun r σ2 H2 locs2 hq oS2 okr2 hP2 hS2 => ?_)
  obtain ⟨⟨z2, h1, rfl⟩, hI2⟩ := hq
  cases h1
  refine W.eq (g2 := F0 m 1064 ls [.int (i32 z), .int (i32 z)]) rfl ?_
  exact lv_icmp_eq (tgt := 1488) hex hb dl1064 (by decide) (fun _ => K σ2 H2 locs2 hI2 oS2 hP2 hS2) (fun q9 => absurd rfl q9)
set_option maxHeartbeats 4000000 in
theorem lq_c26 (hx : lq_Cx D ad cA fm p s m meth c b L xs) (hL : L ≤ 3072) {I : Nat → mw_S → Prop} (hag : ag_wins I) {n i : Nat} {x3 : Int32} (ex : x3 = nI i) (hi : i + 6 ≤ L) (hn : n < 512) {σ : mw_S} (hI : I n σ) (oS : mw_okS σ) {H : Heap} {locs : List Loc} {ls : Array Slot} (hP : va_P D vwCl (mw_ws ad cA σ) H) (hS : va_S (mw_A ad s.heap.size) s.heap H locs) (hl : lv_has ls 4 (lq_lv ad b x3)) {cells slots : Nat} (hc1 : cells ≤ 600000) (hc2 : slots ≤ 7302250)
    (K : ∀ (σ' : mw_S) (H' : Heap) (locs' : List Loc), I (n + 1) σ' → mw_okS σ' → va_P D vwCl (mw_ws ad cA σ') H' → va_S (mw_A ad s.heap.size) s.heap H' locs' → W p l e room_1 s m #[Value.ref b] below meth c H' locs' cells slots Qm (F0 m 1488 ls [])) : W p l e room_1 s m #[Value.ref b] below meth c H locs cells slots Qm (F0 m 1069 ls []) := by
  have hx0 := hx
  obtain ⟨⟨hex, hb, hr, hml, hown, hts, hX, hbl, hlocks, hgv⟩, hK, hCs, hfm, hinj, hlo⟩ := hx
  have hbA : ¬ mw_A ad s.heap.size b := fun q => by
    rcases q with ⟨k, h1, h2⟩ | q
    · have := hlo k h1
      omega
    · omega
  have h_1 : vp_in (x3 + 1) L := by rw [ex, show (1 : Int32) = nI 1 from rfl, nI_add]; exact vp_in_nI (by omega) (by omega)
  obtain ⟨w1, ew1⟩ : ∃ y : Int32, y = xs (x3 + 1).toNatClampNeg := ⟨_, rfl⟩
  have h_2 : vp_in (x3 + 2) L := by rw [ex, show (2 : Int32) = nI 2 from rfl, nI_add]; exact vp_in_nI (by omega) (by omega)
  obtain ⟨w2, ew2⟩ : ∃ y : Int32, y = xs (x3 + 2).toNatClampNeg := ⟨_, rfl⟩
  refine lv_aload_n hex hb dl1069 rfl (lv_at hl 1 rfl) ?_
  refine lv_aload_n hex hb dl1070 rfl (lv_at hl 0 rfl) ?_
  refine lv_iload_n hex hb dl1071 rfl (lv_at hl 3 rfl) ?_
  refine lv_iconst (v := 1) hex hb dl1072 (by decide) ?_
  refine lv_iadd hex hb dl1073 ?_
  refine va_sld hex hb hX hbl hbA hS h_1 dl1074 ?_
  rw [← ew1]
  refine lv_aload_n hex hb dl1075 rfl (lv_at hl 0 rfl) ?_
  refine lv_iload_n hex hb dl1076 rfl (lv_at hl 3 rfl) ?_
  refine lv_iconst (v := 2) hex hb dl1077 (by decide) ?_
  refine lv_iadd hex hb dl1078 ?_
  refine va_sld hex hb hX hbl hbA hS h_2 dl1079 ?_
  rw [← ew2]
  refine W.eq (g2 := F0 m 1080 ls (([jI w1.toInt, jI w2.toInt].reverse ++ jR 0 :: []).map (mw_tr ad fm))) ?_ ?_
  · simp only [List.reverse_cons, List.reverse_nil, List.nil_append, List.cons_append, List.map_cons, List.map_nil, lq_tr, lq_trL]
    try rfl
  have hcall := hag n σ (w1.toInt) (w2.toInt) hn hI oS (in32_of _) (in32_of _)
  refine lq_call hx0 mq145 (hlink := by decide +kernel) rfl rfl (by rw [lq_len]; decide) (Nat.le_of_ble_eq_true rfl) dl1080 hl.1 hc1 hc2 oS (fun v hv => by
      simp only [List.mem_cons, List.not_mem_nil, or_false] at hv
      rcases hv with rfl | rfl <;> first | exact in32_of _ | exact in64_of _ | exact ⟨by decide, by decide⟩) hP hS hcall (fun r σ1 H1 locs1 hcall2 oS1 okr hP1 hS1 => ?_)
  clear hP hS
  have hP := hP1
  have hS := hS1
  have hr1 : ∃ z, r = some (jI z) := by
    obtain ⟨r2, s2, -, ⟨z, h1, -⟩, -⟩ := hcall2
    exact ⟨z, h1⟩
  obtain ⟨z, rfl⟩ := hr1
  refine W.eq (g2 := F0 m 1083 ls [mw_tr ad fm (jI z)]) rfl ?_
  refine lv_aload_n hex hb dl1083 rfl (lv_at hl 2 rfl) ?_
  refine lv_aload_n hex hb dl1084 rfl (lv_at hl 0 rfl) ?_
  refine lv_iload_n hex hb dl1085 rfl (lv_at hl 3 rfl) ?_
  refine lv_iconst (v := 1) hex hb dl1086 (by decide) ?_
  refine lv_iadd hex hb dl1087 ?_
  refine va_sld hex hb hX hbl hbA hS h_1 dl1088 ?_
  rw [← ew1]
  refine lv_aload_n hex hb dl1089 rfl (lv_at hl 0 rfl) ?_
  refine lv_iload_n hex hb dl1090 rfl (lv_at hl 3 rfl) ?_
  refine lv_iconst (v := 2) hex hb dl1091 (by decide) ?_
  refine lv_iadd hex hb dl1092 ?_
  refine va_sld hex hb hX hbl hbA hS h_2 dl1093 ?_
  rw [← ew2]
  refine W.eq (g2 := F0 m 1094 ls (([jI w1.toInt, jI w2.toInt].reverse ++ jR 100 :: [jI z]).map (mw_tr ad fm))) ?_ ?_
  · simp only [List.reverse_cons, List.reverse_nil, List.nil_append, List.cons_append, List.map_cons, List.map_nil, lq_tr, lq_trL]
    try rfl
  refine lq_call hx0 mq263 (hlink := by decide +kernel) rfl rfl (by rw [lq_len]; decide) (Nat.le_of_ble_eq_true rfl) dl1094 hl.1 hc1 hc2 oS1 (fun v hv => by
      simp only [List.mem_cons, List.not_mem_nil, or_false] at hv
      rcases hv with rfl | rfl <;> first | exact in32_of _ | exact in64_of _ | exact ⟨by decide, by decide⟩) hP hS hcall2 (fun r σ2 H2 locs2 hq oS2 okr2 hP2 hS2 => ?_)
  obtain ⟨⟨z2, h1, rfl⟩, hI2⟩ := hq
  cases h1
  refine W.eq (g2 := F0 m 1097 ls [.int (i32 z), .int (i32 z)]) rfl ?_
  exact lv_icmp_eq (tgt := 1488) hex hb dl1097 (by decide) (fun _ => K σ2 H2 locs2 hI2 oS2 hP2 hS2) (fun q9 => absurd rfl q9)
set_option maxHeartbeats 4000000 in
theorem lq_c27 (hx : lq_Cx D ad cA fm p s m meth c b L xs) (hL : L ≤ 3072) {I : Nat → mw_S → Prop} (hag : ag_lends I) {n i : Nat} {x3 : Int32} (ex : x3 = nI i) (hi : i + 6 ≤ L) (hn : n < 512) {σ : mw_S} (hI : I n σ) (oS : mw_okS σ) {H : Heap} {locs : List Loc} {ls : Array Slot} (hP : va_P D vwCl (mw_ws ad cA σ) H) (hS : va_S (mw_A ad s.heap.size) s.heap H locs) (hl : lv_has ls 4 (lq_lv ad b x3)) {cells slots : Nat} (hc1 : cells ≤ 600000) (hc2 : slots ≤ 7302250)
    (K : ∀ (σ' : mw_S) (H' : Heap) (locs' : List Loc), I (n + 1) σ' → mw_okS σ' → va_P D vwCl (mw_ws ad cA σ') H' → va_S (mw_A ad s.heap.size) s.heap H' locs' → W p l e room_1 s m #[Value.ref b] below meth c H' locs' cells slots Qm (F0 m 1488 ls [])) : W p l e room_1 s m #[Value.ref b] below meth c H locs cells slots Qm (F0 m 1102 ls []) := by
  have hx0 := hx
  obtain ⟨⟨hex, hb, hr, hml, hown, hts, hX, hbl, hlocks, hgv⟩, hK, hCs, hfm, hinj, hlo⟩ := hx
  have hbA : ¬ mw_A ad s.heap.size b := fun q => by
    rcases q with ⟨k, h1, h2⟩ | q
    · have := hlo k h1
      omega
    · omega
  have h_1 : vp_in (x3 + 1) L := by rw [ex, show (1 : Int32) = nI 1 from rfl, nI_add]; exact vp_in_nI (by omega) (by omega)
  obtain ⟨w1, ew1⟩ : ∃ y : Int32, y = xs (x3 + 1).toNatClampNeg := ⟨_, rfl⟩
  have h_2 : vp_in (x3 + 2) L := by rw [ex, show (2 : Int32) = nI 2 from rfl, nI_add]; exact vp_in_nI (by omega) (by omega)
  obtain ⟨w2, ew2⟩ : ∃ y : Int32, y = xs (x3 + 2).toNatClampNeg := ⟨_, rfl⟩
  have h_3 : vp_in (x3 + 3) L := by rw [ex, show (3 : Int32) = nI 3 from rfl, nI_add]; exact vp_in_nI (by omega) (by omega)
  obtain ⟨w3, ew3⟩ : ∃ y : Int32, y = xs (x3 + 3).toNatClampNeg := ⟨_, rfl⟩
  refine lv_aload_n hex hb dl1102 rfl (lv_at hl 1 rfl) ?_
  refine lv_aload_n hex hb dl1103 rfl (lv_at hl 0 rfl) ?_
  refine lv_iload_n hex hb dl1104 rfl (lv_at hl 3 rfl) ?_
  refine lv_iconst (v := 1) hex hb dl1105 (by decide) ?_
  refine lv_iadd hex hb dl1106 ?_
  refine va_sld hex hb hX hbl hbA hS h_1 dl1107 ?_
  rw [← ew1]
  refine lv_aload_n hex hb dl1108 rfl (lv_at hl 0 rfl) ?_
  refine lv_iload_n hex hb dl1109 rfl (lv_at hl 3 rfl) ?_
  refine lv_iconst (v := 2) hex hb dl1110 (by decide) ?_
  refine lv_iadd hex hb dl1111 ?_
  refine va_sld hex hb hX hbl hbA hS h_2 dl1112 ?_
  rw [← ew2]
  refine lv_aload_n hex hb dl1113 rfl (lv_at hl 0 rfl) ?_
  refine lv_iload_n hex hb dl1114 rfl (lv_at hl 3 rfl) ?_
  refine lv_iconst (v := 3) hex hb dl1115 (by decide) ?_
  refine lv_iadd hex hb dl1116 ?_
  refine va_sld hex hb hX hbl hbA hS h_3 dl1117 ?_
  rw [← ew3]
  refine W.eq (g2 := F0 m 1118 ls (([jI w1.toInt, jI w2.toInt, jI w3.toInt].reverse ++ jR 0 :: []).map (mw_tr ad fm))) ?_ ?_
  · simp only [List.reverse_cons, List.reverse_nil, List.nil_append, List.cons_append, List.map_cons, List.map_nil, lq_tr, lq_trL]
    try rfl
  have hcall := hag n σ (w1.toInt) (w2.toInt) (w3.toInt) hn hI oS (in32_of _) (in32_of _) (in32_of _)
  refine lq_call hx0 mq146 (hlink := by decide +kernel) rfl rfl (by rw [lq_len]; decide) (Nat.le_of_ble_eq_true rfl) dl1118 hl.1 hc1 hc2 oS (fun v hv => by
      simp only [List.mem_cons, List.not_mem_nil, or_false] at hv
      rcases hv with rfl | rfl | rfl <;> first | exact in32_of _ | exact in64_of _ | exact ⟨by decide, by decide⟩) hP hS hcall (fun r σ1 H1 locs1 hcall2 oS1 okr hP1 hS1 => ?_)
  clear hP hS
  have hP := hP1
  have hS := hS1
  have hr1 : ∃ z, r = some (jI z) := by
    obtain ⟨r2, s2, -, ⟨z, h1, -⟩, -⟩ := hcall2
    exact ⟨z, h1⟩
  obtain ⟨z, rfl⟩ := hr1
  refine W.eq (g2 := F0 m 1121 ls [mw_tr ad fm (jI z)]) rfl ?_
  refine lv_aload_n hex hb dl1121 rfl (lv_at hl 2 rfl) ?_
  refine lv_aload_n hex hb dl1122 rfl (lv_at hl 0 rfl) ?_
  refine lv_iload_n hex hb dl1123 rfl (lv_at hl 3 rfl) ?_
  refine lv_iconst (v := 1) hex hb dl1124 (by decide) ?_
  refine lv_iadd hex hb dl1125 ?_
  refine va_sld hex hb hX hbl hbA hS h_1 dl1126 ?_
  rw [← ew1]
  refine lv_aload_n hex hb dl1127 rfl (lv_at hl 0 rfl) ?_
  refine lv_iload_n hex hb dl1128 rfl (lv_at hl 3 rfl) ?_
  refine lv_iconst (v := 2) hex hb dl1129 (by decide) ?_
  refine lv_iadd hex hb dl1130 ?_
  refine va_sld hex hb hX hbl hbA hS h_2 dl1131 ?_
  rw [← ew2]
  refine lv_aload_n hex hb dl1132 rfl (lv_at hl 0 rfl) ?_
  refine lv_iload_n hex hb dl1133 rfl (lv_at hl 3 rfl) ?_
  refine lv_iconst (v := 3) hex hb dl1134 (by decide) ?_
  refine lv_iadd hex hb dl1135 ?_
  refine va_sld hex hb hX hbl hbA hS h_3 dl1136 ?_
  rw [← ew3]
  refine W.eq (g2 := F0 m 1137 ls (([jI w1.toInt, jI w2.toInt, jI w3.toInt].reverse ++ jR 100 :: [jI z]).map (mw_tr ad fm))) ?_ ?_
  · simp only [List.reverse_cons, List.reverse_nil, List.nil_append, List.cons_append, List.map_cons, List.map_nil, lq_tr, lq_trL]
    try rfl
  refine lq_call hx0 mq265 (hlink := by decide +kernel) rfl rfl (by rw [lq_len]; decide) (Nat.le_of_ble_eq_true rfl) dl1137 hl.1 hc1 hc2 oS1 (fun v hv => by
      simp only [List.mem_cons, List.not_mem_nil, or_false] at hv
      rcases hv with rfl | rfl | rfl <;> first | exact in32_of _ | exact in64_of _ | exact ⟨by decide, by decide⟩) hP hS hcall2 (fun r σ2 H2 locs2 hq oS2 okr2 hP2 hS2 => ?_)
  obtain ⟨⟨z2, h1, rfl⟩, hI2⟩ := hq
  cases h1
  refine W.eq (g2 := F0 m 1140 ls [.int (i32 z), .int (i32 z)]) rfl ?_
  exact lv_icmp_eq (tgt := 1488) hex hb dl1140 (by decide) (fun _ => K σ2 H2 locs2 hI2 oS2 hP2 hS2) (fun q9 => absurd rfl q9)
set_option maxHeartbeats 4000000 in
theorem lq_c28 (hx : lq_Cx D ad cA fm p s m meth c b L xs) (hL : L ≤ 3072) {I : Nat → mw_S → Prop} (hag : ag_owes I) {n i : Nat} {x3 : Int32} (ex : x3 = nI i) (hi : i + 6 ≤ L) (hn : n < 512) {σ : mw_S} (hI : I n σ) (oS : mw_okS σ) {H : Heap} {locs : List Loc} {ls : Array Slot} (hP : va_P D vwCl (mw_ws ad cA σ) H) (hS : va_S (mw_A ad s.heap.size) s.heap H locs) (hl : lv_has ls 4 (lq_lv ad b x3)) {cells slots : Nat} (hc1 : cells ≤ 600000) (hc2 : slots ≤ 7302250)
    (K : ∀ (σ' : mw_S) (H' : Heap) (locs' : List Loc), I (n + 1) σ' → mw_okS σ' → va_P D vwCl (mw_ws ad cA σ') H' → va_S (mw_A ad s.heap.size) s.heap H' locs' → W p l e room_1 s m #[Value.ref b] below meth c H' locs' cells slots Qm (F0 m 1488 ls [])) : W p l e room_1 s m #[Value.ref b] below meth c H locs cells slots Qm (F0 m 1145 ls []) := by
  have hx0 := hx
  obtain ⟨⟨hex, hb, hr, hml, hown, hts, hX, hbl, hlocks, hgv⟩, hK, hCs, hfm, hinj, hlo⟩ := hx
  have hbA : ¬ mw_A ad s.heap.size b := fun q => by
    rcases q with ⟨k, h1, h2⟩ | q
    · have := hlo k h1
      omega
    · omega
  have h_1 : vp_in (x3 + 1) L := by rw [ex, show (1 : Int32) = nI 1 from rfl, nI_add]; exact vp_in_nI (by omega) (by omega)
  obtain ⟨w1, ew1⟩ : ∃ y : Int32, y = xs (x3 + 1).toNatClampNeg := ⟨_, rfl⟩
  have h_2 : vp_in (x3 + 2) L := by rw [ex, show (2 : Int32) = nI 2 from rfl, nI_add]; exact vp_in_nI (by omega) (by omega)
  obtain ⟨w2, ew2⟩ : ∃ y : Int32, y = xs (x3 + 2).toNatClampNeg := ⟨_, rfl⟩
  have h_3 : vp_in (x3 + 3) L := by rw [ex, show (3 : Int32) = nI 3 from rfl, nI_add]; exact vp_in_nI (by omega) (by omega)
  obtain ⟨w3, ew3⟩ : ∃ y : Int32, y = xs (x3 + 3).toNatClampNeg := ⟨_, rfl⟩
  by_cases hz : w3 = 0
  · skip
    refine lv_aload_n hex hb dl1145 rfl (lv_at hl 1 rfl) ?_
    refine lv_aload_n hex hb dl1146 rfl (lv_at hl 0 rfl) ?_
    refine lv_iload_n hex hb dl1147 rfl (lv_at hl 3 rfl) ?_
    refine lv_iconst (v := 1) hex hb dl1148 (by decide) ?_
    refine lv_iadd hex hb dl1149 ?_
    refine va_sld hex hb hX hbl hbA hS h_1 dl1150 ?_
    rw [← ew1]
    refine lv_aload_n hex hb dl1151 rfl (lv_at hl 0 rfl) ?_
    refine lv_iload_n hex hb dl1152 rfl (lv_at hl 3 rfl) ?_
    refine lv_iconst (v := 2) hex hb dl1153 (by decide) ?_
    refine lv_iadd hex hb dl1154 ?_
    refine va_sld hex hb hX hbl hbA hS h_2 dl1155 ?_
    rw [← ew2]
    refine lv_aload_n hex hb dl1156 rfl (lv_at hl 0 rfl) ?_
    refine lv_iload_n hex hb dl1157 rfl (lv_at hl 3 rfl) ?_
    refine lv_iconst (v := 3) hex hb dl1158 (by decide) ?_
    refine lv_iadd hex hb dl1159 ?_
    refine va_sld hex hb hX hbl hbA hS h_3 dl1160 ?_
    rw [← ew3]
    refine lv_if_eq (tgt := 1168) hex hb dl1161 (by decide) (fun _ => ?_) (fun q9 => absurd hz q9)
    refine lv_iconst (v := 0) hex hb dl1168 (by decide) ?_
    refine W.eq (g2 := F0 m 1169 ls (([jI w1.toInt, jI w2.toInt, jI 0].reverse ++ jR 0 :: []).map (mw_tr ad fm))) ?_ ?_
    · simp only [List.reverse_cons, List.reverse_nil, List.nil_append, List.cons_append, List.map_cons, List.map_nil, lq_tr, lq_trL]
      try rfl
    have hcall := hag n σ (w1.toInt) (w2.toInt) (0) hn hI oS (in32_of _) (in32_of _) (⟨by decide, by decide⟩) (by decide)
    refine lq_call hx0 mq147 (hlink := by decide +kernel) rfl rfl (by rw [lq_len]; decide) (Nat.le_of_ble_eq_true rfl) dl1169 hl.1 hc1 hc2 oS (fun v hv => by
        simp only [List.mem_cons, List.not_mem_nil, or_false] at hv
        rcases hv with rfl | rfl | rfl <;> first | exact in32_of _ | exact in64_of _ | exact ⟨by decide, by decide⟩) hP hS hcall (fun r σ1 H1 locs1 hcall2 oS1 okr hP1 hS1 => ?_)
    clear hP hS
    have hP := hP1
    have hS := hS1
    have hr1 : ∃ z, r = some (jI z) := by
      obtain ⟨r2, s2, -, ⟨z, h1, -⟩, -⟩ := hcall2
      exact ⟨z, h1⟩
    obtain ⟨z, rfl⟩ := hr1
    refine W.eq (g2 := F0 m 1172 ls [mw_tr ad fm (jI z)]) rfl ?_
    refine lv_aload_n hex hb dl1172 rfl (lv_at hl 2 rfl) ?_
    refine lv_aload_n hex hb dl1173 rfl (lv_at hl 0 rfl) ?_
    refine lv_iload_n hex hb dl1174 rfl (lv_at hl 3 rfl) ?_
    refine lv_iconst (v := 1) hex hb dl1175 (by decide) ?_
    refine lv_iadd hex hb dl1176 ?_
    refine va_sld hex hb hX hbl hbA hS h_1 dl1177 ?_
    rw [← ew1]
    refine lv_aload_n hex hb dl1178 rfl (lv_at hl 0 rfl) ?_
    refine lv_iload_n hex hb dl1179 rfl (lv_at hl 3 rfl) ?_
    refine lv_iconst (v := 2) hex hb dl1180 (by decide) ?_
    refine lv_iadd hex hb dl1181 ?_
    refine va_sld hex hb hX hbl hbA hS h_2 dl1182 ?_
    rw [← ew2]
    refine lv_aload_n hex hb dl1183 rfl (lv_at hl 0 rfl) ?_
    refine lv_iload_n hex hb dl1184 rfl (lv_at hl 3 rfl) ?_
    refine lv_iconst (v := 3) hex hb dl1185 (by decide) ?_
    refine lv_iadd hex hb dl1186 ?_
    refine va_sld hex hb hX hbl hbA hS h_3 dl1187 ?_
    rw [← ew3]
    refine lv_if_eq (tgt := 1195) hex hb dl1188 (by decide) (fun _ => ?_) (fun q9 => absurd hz q9)
    refine lv_iconst (v := 0) hex hb dl1195 (by decide) ?_
    refine W.eq (g2 := F0 m 1196 ls (([jI w1.toInt, jI w2.toInt, jI 0].reverse ++ jR 100 :: [jI z]).map (mw_tr ad fm))) ?_ ?_
    · simp only [List.reverse_cons, List.reverse_nil, List.nil_append, List.cons_append, List.map_cons, List.map_nil, lq_tr, lq_trL]
      try rfl
    refine lq_call hx0 mq266 (hlink := by decide +kernel) rfl rfl (by rw [lq_len]; decide) (Nat.le_of_ble_eq_true rfl) dl1196 hl.1 hc1 hc2 oS1 (fun v hv => by
        simp only [List.mem_cons, List.not_mem_nil, or_false] at hv
        rcases hv with rfl | rfl | rfl <;> first | exact in32_of _ | exact in64_of _ | exact ⟨by decide, by decide⟩) hP hS hcall2 (fun r σ2 H2 locs2 hq oS2 okr2 hP2 hS2 => ?_)
    obtain ⟨⟨z2, h1, rfl⟩, hI2⟩ := hq
    cases h1
    refine W.eq (g2 := F0 m 1199 ls [.int (i32 z), .int (i32 z)]) rfl ?_
    exact lv_icmp_eq (tgt := 1488) hex hb dl1199 (by decide) (fun _ => K σ2 H2 locs2 hI2 oS2 hP2 hS2) (fun q9 => absurd rfl q9)
  · skip
    refine lv_aload_n hex hb dl1145 rfl (lv_at hl 1 rfl) ?_
    refine lv_aload_n hex hb dl1146 rfl (lv_at hl 0 rfl) ?_
    refine lv_iload_n hex hb dl1147 rfl (lv_at hl 3 rfl) ?_
    refine lv_iconst (v := 1) hex hb dl1148 (by decide) ?_
    refine lv_iadd hex hb dl1149 ?_
    refine va_sld hex hb hX hbl hbA hS h_1 dl1150 ?_
    rw [← ew1]
    refine lv_aload_n hex hb dl1151 rfl (lv_at hl 0 rfl) ?_
    refine lv_iload_n hex hb dl1152 rfl (lv_at hl 3 rfl) ?_
    refine lv_iconst (v := 2) hex hb dl1153 (by decide) ?_
    refine lv_iadd hex hb dl1154 ?_
    refine va_sld hex hb hX hbl hbA hS h_2 dl1155 ?_
    rw [← ew2]
    refine lv_aload_n hex hb dl1156 rfl (lv_at hl 0 rfl) ?_
    refine lv_iload_n hex hb dl1157 rfl (lv_at hl 3 rfl) ?_
    refine lv_iconst (v := 3) hex hb dl1158 (by decide) ?_
    refine lv_iadd hex hb dl1159 ?_
    refine va_sld hex hb hX hbl hbA hS h_3 dl1160 ?_
    rw [← ew3]
    refine lv_if_eq (tgt := 1168) hex hb dl1161 (by decide) (fun q9 => absurd q9 hz) (fun _ => ?_)
    refine lv_iconst (v := 1) hex hb dl1164 (by decide) ?_
    refine lv_goto (tgt := 1169) hex hb dl1165 (by decide) ?_
    refine W.eq (g2 := F0 m 1169 ls (([jI w1.toInt, jI w2.toInt, jI 1].reverse ++ jR 0 :: []).map (mw_tr ad fm))) ?_ ?_
    · simp only [List.reverse_cons, List.reverse_nil, List.nil_append, List.cons_append, List.map_cons, List.map_nil, lq_tr, lq_trL]
      try rfl
    have hcall := hag n σ (w1.toInt) (w2.toInt) (1) hn hI oS (in32_of _) (in32_of _) (⟨by decide, by decide⟩) (by decide)
    refine lq_call hx0 mq147 (hlink := by decide +kernel) rfl rfl (by rw [lq_len]; decide) (Nat.le_of_ble_eq_true rfl) dl1169 hl.1 hc1 hc2 oS (fun v hv => by
        simp only [List.mem_cons, List.not_mem_nil, or_false] at hv
        rcases hv with rfl | rfl | rfl <;> first | exact in32_of _ | exact in64_of _ | exact ⟨by decide, by decide⟩) hP hS hcall (fun r σ1 H1 locs1 hcall2 oS1 okr hP1 hS1 => ?_)
    clear hP hS
    have hP := hP1
    have hS := hS1
    have hr1 : ∃ z, r = some (jI z) := by
      obtain ⟨r2, s2, -, ⟨z, h1, -⟩, -⟩ := hcall2
      exact ⟨z, h1⟩
    obtain ⟨z, rfl⟩ := hr1
    refine W.eq (g2 := F0 m 1172 ls [mw_tr ad fm (jI z)]) rfl ?_
    refine lv_aload_n hex hb dl1172 rfl (lv_at hl 2 rfl) ?_
    refine lv_aload_n hex hb dl1173 rfl (lv_at hl 0 rfl) ?_
    refine lv_iload_n hex hb dl1174 rfl (lv_at hl 3 rfl) ?_
    refine lv_iconst (v := 1) hex hb dl1175 (by decide) ?_
    refine lv_iadd hex hb dl1176 ?_
    refine va_sld hex hb hX hbl hbA hS h_1 dl1177 ?_
    rw [← ew1]
    refine lv_aload_n hex hb dl1178 rfl (lv_at hl 0 rfl) ?_
    refine lv_iload_n hex hb dl1179 rfl (lv_at hl 3 rfl) ?_
    refine lv_iconst (v := 2) hex hb dl1180 (by decide) ?_
    refine lv_iadd hex hb dl1181 ?_
    refine va_sld hex hb hX hbl hbA hS h_2 dl1182 ?_
    rw [← ew2]
    refine lv_aload_n hex hb dl1183 rfl (lv_at hl 0 rfl) ?_
    refine lv_iload_n hex hb dl1184 rfl (lv_at hl 3 rfl) ?_
    refine lv_iconst (v := 3) hex hb dl1185 (by decide) ?_
    refine lv_iadd hex hb dl1186 ?_
    refine va_sld hex hb hX hbl hbA hS h_3 dl1187 ?_
    rw [← ew3]
    refine lv_if_eq (tgt := 1195) hex hb dl1188 (by decide) (fun q9 => absurd q9 hz) (fun _ => ?_)
    refine lv_iconst (v := 1) hex hb dl1191 (by decide) ?_
    refine lv_goto (tgt := 1196) hex hb dl1192 (by decide) ?_
    refine W.eq (g2 := F0 m 1196 ls (([jI w1.toInt, jI w2.toInt, jI 1].reverse ++ jR 100 :: [jI z]).map (mw_tr ad fm))) ?_ ?_
    · simp only [List.reverse_cons, List.reverse_nil, List.nil_append, List.cons_append, List.map_cons, List.map_nil, lq_tr, lq_trL]
      try rfl
    refine lq_call hx0 mq266 (hlink := by decide +kernel) rfl rfl (by rw [lq_len]; decide) (Nat.le_of_ble_eq_true rfl) dl1196 hl.1 hc1 hc2 oS1 (fun v hv => by
        simp only [List.mem_cons, List.not_mem_nil, or_false] at hv
        rcases hv with rfl | rfl | rfl <;> first | exact in32_of _ | exact in64_of _ | exact ⟨by decide, by decide⟩) hP hS hcall2 (fun r σ2 H2 locs2 hq oS2 okr2 hP2 hS2 => ?_)
    obtain ⟨⟨z2, h1, rfl⟩, hI2⟩ := hq
    cases h1
    refine W.eq (g2 := F0 m 1199 ls [.int (i32 z), .int (i32 z)]) rfl ?_
    exact lv_icmp_eq (tgt := 1488) hex hb dl1199 (by decide) (fun _ => K σ2 H2 locs2 hI2 oS2 hP2 hS2) (fun q9 => absurd rfl q9)
set_option maxHeartbeats 4000000 in
theorem lq_c29 (hx : lq_Cx D ad cA fm p s m meth c b L xs) (hL : L ≤ 3072) {I : Nat → mw_S → Prop} (hag : ag_balance I) {n i : Nat} {x3 : Int32} (ex : x3 = nI i) (hi : i + 6 ≤ L) (hn : n < 512) {σ : mw_S} (hI : I n σ) (oS : mw_okS σ) {H : Heap} {locs : List Loc} {ls : Array Slot} (hP : va_P D vwCl (mw_ws ad cA σ) H) (hS : va_S (mw_A ad s.heap.size) s.heap H locs) (hl : lv_has ls 4 (lq_lv ad b x3)) {cells slots : Nat} (hc1 : cells ≤ 600000) (hc2 : slots ≤ 7302250)
    (K : ∀ (σ' : mw_S) (H' : Heap) (locs' : List Loc), I (n + 1) σ' → mw_okS σ' → va_P D vwCl (mw_ws ad cA σ') H' → va_S (mw_A ad s.heap.size) s.heap H' locs' → W p l e room_1 s m #[Value.ref b] below meth c H' locs' cells slots Qm (F0 m 1488 ls [])) : W p l e room_1 s m #[Value.ref b] below meth c H locs cells slots Qm (F0 m 1204 ls []) := by
  have hx0 := hx
  obtain ⟨⟨hex, hb, hr, hml, hown, hts, hX, hbl, hlocks, hgv⟩, hK, hCs, hfm, hinj, hlo⟩ := hx
  have hbA : ¬ mw_A ad s.heap.size b := fun q => by
    rcases q with ⟨k, h1, h2⟩ | q
    · have := hlo k h1
      omega
    · omega
  have h_1 : vp_in (x3 + 1) L := by rw [ex, show (1 : Int32) = nI 1 from rfl, nI_add]; exact vp_in_nI (by omega) (by omega)
  obtain ⟨w1, ew1⟩ : ∃ y : Int32, y = xs (x3 + 1).toNatClampNeg := ⟨_, rfl⟩
  have h_2 : vp_in (x3 + 2) L := by rw [ex, show (2 : Int32) = nI 2 from rfl, nI_add]; exact vp_in_nI (by omega) (by omega)
  obtain ⟨w2, ew2⟩ : ∃ y : Int32, y = xs (x3 + 2).toNatClampNeg := ⟨_, rfl⟩
  by_cases hz : w2 = 0
  · skip
    refine lv_aload_n hex hb dl1204 rfl (lv_at hl 1 rfl) ?_
    refine lv_aload_n hex hb dl1205 rfl (lv_at hl 0 rfl) ?_
    refine lv_iload_n hex hb dl1206 rfl (lv_at hl 3 rfl) ?_
    refine lv_iconst (v := 1) hex hb dl1207 (by decide) ?_
    refine lv_iadd hex hb dl1208 ?_
    refine va_sld hex hb hX hbl hbA hS h_1 dl1209 ?_
    rw [← ew1]
    refine lv_aload_n hex hb dl1210 rfl (lv_at hl 0 rfl) ?_
    refine lv_iload_n hex hb dl1211 rfl (lv_at hl 3 rfl) ?_
    refine lv_iconst (v := 2) hex hb dl1212 (by decide) ?_
    refine lv_iadd hex hb dl1213 ?_
    refine va_sld hex hb hX hbl hbA hS h_2 dl1214 ?_
    rw [← ew2]
    refine lv_if_eq (tgt := 1222) hex hb dl1215 (by decide) (fun _ => ?_) (fun q9 => absurd hz q9)
    refine lv_iconst (v := 0) hex hb dl1222 (by decide) ?_
    refine W.eq (g2 := F0 m 1223 ls (([jI w1.toInt, jI 0].reverse ++ jR 0 :: []).map (mw_tr ad fm))) ?_ ?_
    · simp only [List.reverse_cons, List.reverse_nil, List.nil_append, List.cons_append, List.map_cons, List.map_nil, lq_tr, lq_trL]
      try rfl
    have hcall := hag n σ (w1.toInt) (0) hn hI oS (in32_of _) (⟨by decide, by decide⟩) (by decide)
    refine lq_call hx0 mq148 (hlink := by decide +kernel) rfl rfl (by rw [lq_len]; decide) (Nat.le_of_ble_eq_true rfl) dl1223 hl.1 hc1 hc2 oS (fun v hv => by
        simp only [List.mem_cons, List.not_mem_nil, or_false] at hv
        rcases hv with rfl | rfl <;> first | exact in32_of _ | exact in64_of _ | exact ⟨by decide, by decide⟩) hP hS hcall (fun r σ1 H1 locs1 hcall2 oS1 okr hP1 hS1 => ?_)
    clear hP hS
    have hP := hP1
    have hS := hS1
    have hr1 : ∃ z, r = some (jI z) := by
      obtain ⟨r2, s2, -, ⟨z, h1, -⟩, -⟩ := hcall2
      exact ⟨z, h1⟩
    obtain ⟨z, rfl⟩ := hr1
    refine W.eq (g2 := F0 m 1226 ls [mw_tr ad fm (jI z)]) rfl ?_
    refine lv_aload_n hex hb dl1226 rfl (lv_at hl 2 rfl) ?_
    refine lv_aload_n hex hb dl1227 rfl (lv_at hl 0 rfl) ?_
    refine lv_iload_n hex hb dl1228 rfl (lv_at hl 3 rfl) ?_
    refine lv_iconst (v := 1) hex hb dl1229 (by decide) ?_
    refine lv_iadd hex hb dl1230 ?_
    refine va_sld hex hb hX hbl hbA hS h_1 dl1231 ?_
    rw [← ew1]
    refine lv_aload_n hex hb dl1232 rfl (lv_at hl 0 rfl) ?_
    refine lv_iload_n hex hb dl1233 rfl (lv_at hl 3 rfl) ?_
    refine lv_iconst (v := 2) hex hb dl1234 (by decide) ?_
    refine lv_iadd hex hb dl1235 ?_
    refine va_sld hex hb hX hbl hbA hS h_2 dl1236 ?_
    rw [← ew2]
    refine lv_if_eq (tgt := 1244) hex hb dl1237 (by decide) (fun _ => ?_) (fun q9 => absurd hz q9)
    refine lv_iconst (v := 0) hex hb dl1244 (by decide) ?_
    refine W.eq (g2 := F0 m 1245 ls (([jI w1.toInt, jI 0].reverse ++ jR 100 :: [jI z]).map (mw_tr ad fm))) ?_ ?_
    · simp only [List.reverse_cons, List.reverse_nil, List.nil_append, List.cons_append, List.map_cons, List.map_nil, lq_tr, lq_trL]
      try rfl
    refine lq_call hx0 mq268 (hlink := by decide +kernel) rfl rfl (by rw [lq_len]; decide) (Nat.le_of_ble_eq_true rfl) dl1245 hl.1 hc1 hc2 oS1 (fun v hv => by
        simp only [List.mem_cons, List.not_mem_nil, or_false] at hv
        rcases hv with rfl | rfl <;> first | exact in32_of _ | exact in64_of _ | exact ⟨by decide, by decide⟩) hP hS hcall2 (fun r σ2 H2 locs2 hq oS2 okr2 hP2 hS2 => ?_)
    obtain ⟨⟨z2, h1, rfl⟩, hI2⟩ := hq
    cases h1
    refine W.eq (g2 := F0 m 1248 ls [.int (i32 z), .int (i32 z)]) rfl ?_
    exact lv_icmp_eq (tgt := 1488) hex hb dl1248 (by decide) (fun _ => K σ2 H2 locs2 hI2 oS2 hP2 hS2) (fun q9 => absurd rfl q9)
  · skip
    refine lv_aload_n hex hb dl1204 rfl (lv_at hl 1 rfl) ?_
    refine lv_aload_n hex hb dl1205 rfl (lv_at hl 0 rfl) ?_
    refine lv_iload_n hex hb dl1206 rfl (lv_at hl 3 rfl) ?_
    refine lv_iconst (v := 1) hex hb dl1207 (by decide) ?_
    refine lv_iadd hex hb dl1208 ?_
    refine va_sld hex hb hX hbl hbA hS h_1 dl1209 ?_
    rw [← ew1]
    refine lv_aload_n hex hb dl1210 rfl (lv_at hl 0 rfl) ?_
    refine lv_iload_n hex hb dl1211 rfl (lv_at hl 3 rfl) ?_
    refine lv_iconst (v := 2) hex hb dl1212 (by decide) ?_
    refine lv_iadd hex hb dl1213 ?_
    refine va_sld hex hb hX hbl hbA hS h_2 dl1214 ?_
    rw [← ew2]
    refine lv_if_eq (tgt := 1222) hex hb dl1215 (by decide) (fun q9 => absurd q9 hz) (fun _ => ?_)
    refine lv_iconst (v := 1) hex hb dl1218 (by decide) ?_
    refine lv_goto (tgt := 1223) hex hb dl1219 (by decide) ?_
    refine W.eq (g2 := F0 m 1223 ls (([jI w1.toInt, jI 1].reverse ++ jR 0 :: []).map (mw_tr ad fm))) ?_ ?_
    · simp only [List.reverse_cons, List.reverse_nil, List.nil_append, List.cons_append, List.map_cons, List.map_nil, lq_tr, lq_trL]
      try rfl
    have hcall := hag n σ (w1.toInt) (1) hn hI oS (in32_of _) (⟨by decide, by decide⟩) (by decide)
    refine lq_call hx0 mq148 (hlink := by decide +kernel) rfl rfl (by rw [lq_len]; decide) (Nat.le_of_ble_eq_true rfl) dl1223 hl.1 hc1 hc2 oS (fun v hv => by
        simp only [List.mem_cons, List.not_mem_nil, or_false] at hv
        rcases hv with rfl | rfl <;> first | exact in32_of _ | exact in64_of _ | exact ⟨by decide, by decide⟩) hP hS hcall (fun r σ1 H1 locs1 hcall2 oS1 okr hP1 hS1 => ?_)
    clear hP hS
    have hP := hP1
    have hS := hS1
    have hr1 : ∃ z, r = some (jI z) := by
      obtain ⟨r2, s2, -, ⟨z, h1, -⟩, -⟩ := hcall2
      exact ⟨z, h1⟩
    obtain ⟨z, rfl⟩ := hr1
    refine W.eq (g2 := F0 m 1226 ls [mw_tr ad fm (jI z)]) rfl ?_
    refine lv_aload_n hex hb dl1226 rfl (lv_at hl 2 rfl) ?_
    refine lv_aload_n hex hb dl1227 rfl (lv_at hl 0 rfl) ?_
    refine lv_iload_n hex hb dl1228 rfl (lv_at hl 3 rfl) ?_
    refine lv_iconst (v := 1) hex hb dl1229 (by decide) ?_
    refine lv_iadd hex hb dl1230 ?_
    refine va_sld hex hb hX hbl hbA hS h_1 dl1231 ?_
    rw [← ew1]
    refine lv_aload_n hex hb dl1232 rfl (lv_at hl 0 rfl) ?_
    refine lv_iload_n hex hb dl1233 rfl (lv_at hl 3 rfl) ?_
    refine lv_iconst (v := 2) hex hb dl1234 (by decide) ?_
    refine lv_iadd hex hb dl1235 ?_
    refine va_sld hex hb hX hbl hbA hS h_2 dl1236 ?_
    rw [← ew2]
    refine lv_if_eq (tgt := 1244) hex hb dl1237 (by decide) (fun q9 => absurd q9 hz) (fun _ => ?_)
    refine lv_iconst (v := 1) hex hb dl1240 (by decide) ?_
    refine lv_goto (tgt := 1245) hex hb dl1241 (by decide) ?_
    refine W.eq (g2 := F0 m 1245 ls (([jI w1.toInt, jI 1].reverse ++ jR 100 :: [jI z]).map (mw_tr ad fm))) ?_ ?_
    · simp only [List.reverse_cons, List.reverse_nil, List.nil_append, List.cons_append, List.map_cons, List.map_nil, lq_tr, lq_trL]
      try rfl
    refine lq_call hx0 mq268 (hlink := by decide +kernel) rfl rfl (by rw [lq_len]; decide) (Nat.le_of_ble_eq_true rfl) dl1245 hl.1 hc1 hc2 oS1 (fun v hv => by
        simp only [List.mem_cons, List.not_mem_nil, or_false] at hv
        rcases hv with rfl | rfl <;> first | exact in32_of _ | exact in64_of _ | exact ⟨by decide, by decide⟩) hP hS hcall2 (fun r σ2 H2 locs2 hq oS2 okr2 hP2 hS2 => ?_)
    obtain ⟨⟨z2, h1, rfl⟩, hI2⟩ := hq
    cases h1
    refine W.eq (g2 := F0 m 1248 ls [.int (i32 z), .int (i32 z)]) rfl ?_
    exact lv_icmp_eq (tgt := 1488) hex hb dl1248 (by decide) (fun _ => K σ2 H2 locs2 hI2 oS2 hP2 hS2) (fun q9 => absurd rfl q9)
set_option maxHeartbeats 4000000 in
theorem lq_c30 (hx : lq_Cx D ad cA fm p s m meth c b L xs) (hL : L ≤ 3072) {I : Nat → mw_S → Prop} (hag : ag_clear I) {n i : Nat} {x3 : Int32} (ex : x3 = nI i) (hi : i + 6 ≤ L) (hn : n < 512) {σ : mw_S} (hI : I n σ) (oS : mw_okS σ) {H : Heap} {locs : List Loc} {ls : Array Slot} (hP : va_P D vwCl (mw_ws ad cA σ) H) (hS : va_S (mw_A ad s.heap.size) s.heap H locs) (hl : lv_has ls 4 (lq_lv ad b x3)) {cells slots : Nat} (hc1 : cells ≤ 600000) (hc2 : slots ≤ 7302250)
    (K : ∀ (σ' : mw_S) (H' : Heap) (locs' : List Loc), I (n + 1) σ' → mw_okS σ' → va_P D vwCl (mw_ws ad cA σ') H' → va_S (mw_A ad s.heap.size) s.heap H' locs' → W p l e room_1 s m #[Value.ref b] below meth c H' locs' cells slots Qm (F0 m 1488 ls [])) : W p l e room_1 s m #[Value.ref b] below meth c H locs cells slots Qm (F0 m 1253 ls []) := by
  have hx0 := hx
  obtain ⟨⟨hex, hb, hr, hml, hown, hts, hX, hbl, hlocks, hgv⟩, hK, hCs, hfm, hinj, hlo⟩ := hx
  have hbA : ¬ mw_A ad s.heap.size b := fun q => by
    rcases q with ⟨k, h1, h2⟩ | q
    · have := hlo k h1
      omega
    · omega
  refine lv_aload_n hex hb dl1253 rfl (lv_at hl 1 rfl) ?_
  refine W.eq (g2 := F0 m 1254 ls (([].reverse ++ jR 0 :: []).map (mw_tr ad fm))) ?_ ?_
  · simp only [List.reverse_cons, List.reverse_nil, List.nil_append, List.cons_append, List.map_cons, List.map_nil, lq_tr, lq_trL]
    try rfl
  have hcall := hag n σ  hn hI oS 
  refine lq_call hx0 mq149 (hlink := by decide +kernel) rfl rfl (by rw [lq_len]; decide) (Nat.le_of_ble_eq_true rfl) dl1254 hl.1 hc1 hc2 oS (fun v hv => by cases hv) hP hS hcall (fun r σ1 H1 locs1 hcall2 oS1 okr hP1 hS1 => ?_)
  clear hP hS
  have hP := hP1
  have hS := hS1
  have hr1 : ∃ z, r = some (jI z) := by
    obtain ⟨r2, s2, -, ⟨z, h1, -⟩, -⟩ := hcall2
    exact ⟨z, h1⟩
  obtain ⟨z, rfl⟩ := hr1
  refine W.eq (g2 := F0 m 1257 ls [mw_tr ad fm (jI z)]) rfl ?_
  refine lv_aload_n hex hb dl1257 rfl (lv_at hl 2 rfl) ?_
  refine W.eq (g2 := F0 m 1258 ls (([].reverse ++ jR 100 :: [jI z]).map (mw_tr ad fm))) ?_ ?_
  · simp only [List.reverse_cons, List.reverse_nil, List.nil_append, List.cons_append, List.map_cons, List.map_nil, lq_tr, lq_trL]
    try rfl
  refine lq_call hx0 mq270 (hlink := by decide +kernel) rfl rfl (by rw [lq_len]; decide) (Nat.le_of_ble_eq_true rfl) dl1258 hl.1 hc1 hc2 oS1 (fun v hv => by cases hv) hP hS hcall2 (fun r σ2 H2 locs2 hq oS2 okr2 hP2 hS2 => ?_)
  obtain ⟨⟨z2, h1, rfl⟩, hI2⟩ := hq
  cases h1
  refine W.eq (g2 := F0 m 1261 ls [.int (i32 z), .int (i32 z)]) rfl ?_
  exact lv_icmp_eq (tgt := 1488) hex hb dl1261 (by decide) (fun _ => K σ2 H2 locs2 hI2 oS2 hP2 hS2) (fun q9 => absurd rfl q9)
set_option maxHeartbeats 4000000 in
theorem lq_c31 (hx : lq_Cx D ad cA fm p s m meth c b L xs) (hL : L ≤ 3072) {I : Nat → mw_S → Prop} (hag : ag_payments I) {n i : Nat} {x3 : Int32} (ex : x3 = nI i) (hi : i + 6 ≤ L) (hn : n < 512) {σ : mw_S} (hI : I n σ) (oS : mw_okS σ) {H : Heap} {locs : List Loc} {ls : Array Slot} (hP : va_P D vwCl (mw_ws ad cA σ) H) (hS : va_S (mw_A ad s.heap.size) s.heap H locs) (hl : lv_has ls 4 (lq_lv ad b x3)) {cells slots : Nat} (hc1 : cells ≤ 600000) (hc2 : slots ≤ 7302250)
    (K : ∀ (σ' : mw_S) (H' : Heap) (locs' : List Loc), I (n + 1) σ' → mw_okS σ' → va_P D vwCl (mw_ws ad cA σ') H' → va_S (mw_A ad s.heap.size) s.heap H' locs' → W p l e room_1 s m #[Value.ref b] below meth c H' locs' cells slots Qm (F0 m 1488 ls [])) : W p l e room_1 s m #[Value.ref b] below meth c H locs cells slots Qm (F0 m 1266 ls []) := by
  have hx0 := hx
  obtain ⟨⟨hex, hb, hr, hml, hown, hts, hX, hbl, hlocks, hgv⟩, hK, hCs, hfm, hinj, hlo⟩ := hx
  have hbA : ¬ mw_A ad s.heap.size b := fun q => by
    rcases q with ⟨k, h1, h2⟩ | q
    · have := hlo k h1
      omega
    · omega
  refine lv_aload_n hex hb dl1266 rfl (lv_at hl 1 rfl) ?_
  refine W.eq (g2 := F0 m 1267 ls (([].reverse ++ jR 0 :: []).map (mw_tr ad fm))) ?_ ?_
  · simp only [List.reverse_cons, List.reverse_nil, List.nil_append, List.cons_append, List.map_cons, List.map_nil, lq_tr, lq_trL]
    try rfl
  have hcall := hag n σ  hn hI oS 
  refine lq_call hx0 mq150 (hlink := by decide +kernel) rfl rfl (by rw [lq_len]; decide) (Nat.le_of_ble_eq_true rfl) dl1267 hl.1 hc1 hc2 oS (fun v hv => by cases hv) hP hS hcall (fun r σ1 H1 locs1 hcall2 oS1 okr hP1 hS1 => ?_)
  clear hP hS
  have hP := hP1
  have hS := hS1
  have hr1 : ∃ z, r = some (jI z) := by
    obtain ⟨r2, s2, -, ⟨z, h1, -⟩, -⟩ := hcall2
    exact ⟨z, h1⟩
  obtain ⟨z, rfl⟩ := hr1
  refine W.eq (g2 := F0 m 1270 ls [mw_tr ad fm (jI z)]) rfl ?_
  refine lv_aload_n hex hb dl1270 rfl (lv_at hl 2 rfl) ?_
  refine W.eq (g2 := F0 m 1271 ls (([].reverse ++ jR 100 :: [jI z]).map (mw_tr ad fm))) ?_ ?_
  · simp only [List.reverse_cons, List.reverse_nil, List.nil_append, List.cons_append, List.map_cons, List.map_nil, lq_tr, lq_trL]
    try rfl
  refine lq_call hx0 mq271 (hlink := by decide +kernel) rfl rfl (by rw [lq_len]; decide) (Nat.le_of_ble_eq_true rfl) dl1271 hl.1 hc1 hc2 oS1 (fun v hv => by cases hv) hP hS hcall2 (fun r σ2 H2 locs2 hq oS2 okr2 hP2 hS2 => ?_)
  obtain ⟨⟨z2, h1, rfl⟩, hI2⟩ := hq
  cases h1
  refine W.eq (g2 := F0 m 1274 ls [.int (i32 z), .int (i32 z)]) rfl ?_
  exact lv_icmp_eq (tgt := 1488) hex hb dl1274 (by decide) (fun _ => K σ2 H2 locs2 hI2 oS2 hP2 hS2) (fun q9 => absurd rfl q9)
set_option maxHeartbeats 4000000 in
theorem lq_c32 (hx : lq_Cx D ad cA fm p s m meth c b L xs) (hL : L ≤ 3072) {I : Nat → mw_S → Prop} (hag : ag_numbers I) {n i : Nat} {x3 : Int32} (ex : x3 = nI i) (hi : i + 6 ≤ L) (hn : n < 512) {σ : mw_S} (hI : I n σ) (oS : mw_okS σ) {H : Heap} {locs : List Loc} {ls : Array Slot} (hP : va_P D vwCl (mw_ws ad cA σ) H) (hS : va_S (mw_A ad s.heap.size) s.heap H locs) (hl : lv_has ls 4 (lq_lv ad b x3)) {cells slots : Nat} (hc1 : cells ≤ 600000) (hc2 : slots ≤ 7302250)
    (K : ∀ (σ' : mw_S) (H' : Heap) (locs' : List Loc), I (n + 1) σ' → mw_okS σ' → va_P D vwCl (mw_ws ad cA σ') H' → va_S (mw_A ad s.heap.size) s.heap H' locs' → W p l e room_1 s m #[Value.ref b] below meth c H' locs' cells slots Qm (F0 m 1488 ls [])) : W p l e room_1 s m #[Value.ref b] below meth c H locs cells slots Qm (F0 m 1279 ls []) := by
  have hx0 := hx
  obtain ⟨⟨hex, hb, hr, hml, hown, hts, hX, hbl, hlocks, hgv⟩, hK, hCs, hfm, hinj, hlo⟩ := hx
  have hbA : ¬ mw_A ad s.heap.size b := fun q => by
    rcases q with ⟨k, h1, h2⟩ | q
    · have := hlo k h1
      omega
    · omega
  have h_1 : vp_in (x3 + 1) L := by rw [ex, show (1 : Int32) = nI 1 from rfl, nI_add]; exact vp_in_nI (by omega) (by omega)
  obtain ⟨w1, ew1⟩ : ∃ y : Int32, y = xs (x3 + 1).toNatClampNeg := ⟨_, rfl⟩
  have h_2 : vp_in (x3 + 2) L := by rw [ex, show (2 : Int32) = nI 2 from rfl, nI_add]; exact vp_in_nI (by omega) (by omega)
  obtain ⟨w2, ew2⟩ : ∃ y : Int32, y = xs (x3 + 2).toNatClampNeg := ⟨_, rfl⟩
  have h_3 : vp_in (x3 + 3) L := by rw [ex, show (3 : Int32) = nI 3 from rfl, nI_add]; exact vp_in_nI (by omega) (by omega)
  obtain ⟨w3, ew3⟩ : ∃ y : Int32, y = xs (x3 + 3).toNatClampNeg := ⟨_, rfl⟩
  refine lv_aload_n hex hb dl1279 rfl (lv_at hl 1 rfl) ?_
  refine lv_aload_n hex hb dl1280 rfl (lv_at hl 0 rfl) ?_
  refine lv_iload_n hex hb dl1281 rfl (lv_at hl 3 rfl) ?_
  refine lv_iconst (v := 1) hex hb dl1282 (by decide) ?_
  refine lv_iadd hex hb dl1283 ?_
  refine va_sld hex hb hX hbl hbA hS h_1 dl1284 ?_
  rw [← ew1]
  refine lv_aload_n hex hb dl1285 rfl (lv_at hl 0 rfl) ?_
  refine lv_iload_n hex hb dl1286 rfl (lv_at hl 3 rfl) ?_
  refine lv_iconst (v := 2) hex hb dl1287 (by decide) ?_
  refine lv_iadd hex hb dl1288 ?_
  refine va_sld hex hb hX hbl hbA hS h_2 dl1289 ?_
  rw [← ew2]
  refine lv_aload_n hex hb dl1290 rfl (lv_at hl 0 rfl) ?_
  refine lv_iload_n hex hb dl1291 rfl (lv_at hl 3 rfl) ?_
  refine lv_iconst (v := 3) hex hb dl1292 (by decide) ?_
  refine lv_iadd hex hb dl1293 ?_
  refine va_sld hex hb hX hbl hbA hS h_3 dl1294 ?_
  rw [← ew3]
  refine W.eq (g2 := F0 m 1295 ls (([jI w1.toInt, jI w2.toInt, jI w3.toInt].reverse ++ jR 0 :: []).map (mw_tr ad fm))) ?_ ?_
  · simp only [List.reverse_cons, List.reverse_nil, List.nil_append, List.cons_append, List.map_cons, List.map_nil, lq_tr, lq_trL]
    try rfl
  have hcall := hag n σ (w1.toInt) (w2.toInt) (w3.toInt) hn hI oS (in32_of _) (in32_of _) (in32_of _)
  refine lq_call hx0 mq151 (hlink := by decide +kernel) rfl rfl (by rw [lq_len]; decide) (Nat.le_of_ble_eq_true rfl) dl1295 hl.1 hc1 hc2 oS (fun v hv => by
      simp only [List.mem_cons, List.not_mem_nil, or_false] at hv
      rcases hv with rfl | rfl | rfl <;> first | exact in32_of _ | exact in64_of _ | exact ⟨by decide, by decide⟩) hP hS hcall (fun r σ1 H1 locs1 hcall2 oS1 okr hP1 hS1 => ?_)
  clear hP hS
  have hP := hP1
  have hS := hS1
  have hr1 : ∃ z, r = some (jI z) := by
    obtain ⟨r2, s2, -, ⟨z, h1, -⟩, -⟩ := hcall2
    exact ⟨z, h1⟩
  obtain ⟨z, rfl⟩ := hr1
  refine W.eq (g2 := F0 m 1298 ls [mw_tr ad fm (jI z)]) rfl ?_
  refine lv_aload_n hex hb dl1298 rfl (lv_at hl 2 rfl) ?_
  refine lv_aload_n hex hb dl1299 rfl (lv_at hl 0 rfl) ?_
  refine lv_iload_n hex hb dl1300 rfl (lv_at hl 3 rfl) ?_
  refine lv_iconst (v := 1) hex hb dl1301 (by decide) ?_
  refine lv_iadd hex hb dl1302 ?_
  refine va_sld hex hb hX hbl hbA hS h_1 dl1303 ?_
  rw [← ew1]
  refine lv_aload_n hex hb dl1304 rfl (lv_at hl 0 rfl) ?_
  refine lv_iload_n hex hb dl1305 rfl (lv_at hl 3 rfl) ?_
  refine lv_iconst (v := 2) hex hb dl1306 (by decide) ?_
  refine lv_iadd hex hb dl1307 ?_
  refine va_sld hex hb hX hbl hbA hS h_2 dl1308 ?_
  rw [← ew2]
  refine lv_aload_n hex hb dl1309 rfl (lv_at hl 0 rfl) ?_
  refine lv_iload_n hex hb dl1310 rfl (lv_at hl 3 rfl) ?_
  refine lv_iconst (v := 3) hex hb dl1311 (by decide) ?_
  refine lv_iadd hex hb dl1312 ?_
  refine va_sld hex hb hX hbl hbA hS h_3 dl1313 ?_
  rw [← ew3]
  refine W.eq (g2 := F0 m 1314 ls (([jI w1.toInt, jI w2.toInt, jI w3.toInt].reverse ++ jR 100 :: [jI z]).map (mw_tr ad fm))) ?_ ?_
  · simp only [List.reverse_cons, List.reverse_nil, List.nil_append, List.cons_append, List.map_cons, List.map_nil, lq_tr, lq_trL]
    try rfl
  refine lq_call hx0 mq273 (hlink := by decide +kernel) rfl rfl (by rw [lq_len]; decide) (Nat.le_of_ble_eq_true rfl) dl1314 hl.1 hc1 hc2 oS1 (fun v hv => by
      simp only [List.mem_cons, List.not_mem_nil, or_false] at hv
      rcases hv with rfl | rfl | rfl <;> first | exact in32_of _ | exact in64_of _ | exact ⟨by decide, by decide⟩) hP hS hcall2 (fun r σ2 H2 locs2 hq oS2 okr2 hP2 hS2 => ?_)
  obtain ⟨⟨z2, h1, rfl⟩, hI2⟩ := hq
  cases h1
  refine W.eq (g2 := F0 m 1317 ls [.int (i32 z), .int (i32 z)]) rfl ?_
  exact lv_icmp_eq (tgt := 1488) hex hb dl1317 (by decide) (fun _ => K σ2 H2 locs2 hI2 oS2 hP2 hS2) (fun q9 => absurd rfl q9)
set_option maxHeartbeats 4000000 in
theorem lq_c33 (hx : lq_Cx D ad cA fm p s m meth c b L xs) (hL : L ≤ 3072) {I : Nat → mw_S → Prop} (hag : ag_write I) {n i : Nat} {x3 : Int32} (ex : x3 = nI i) (hi : i + 6 ≤ L) (hn : n < 512) {σ : mw_S} (hI : I n σ) (oS : mw_okS σ) {H : Heap} {locs : List Loc} {ls : Array Slot} (hP : va_P D vwCl (mw_ws ad cA σ) H) (hS : va_S (mw_A ad s.heap.size) s.heap H locs) (hl : lv_has ls 4 (lq_lv ad b x3)) {cells slots : Nat} (hc1 : cells ≤ 600000) (hc2 : slots ≤ 7302250)
    (K : ∀ (σ' : mw_S) (H' : Heap) (locs' : List Loc), I (n + 1) σ' → mw_okS σ' → va_P D vwCl (mw_ws ad cA σ') H' → va_S (mw_A ad s.heap.size) s.heap H' locs' → W p l e room_1 s m #[Value.ref b] below meth c H' locs' cells slots Qm (F0 m 1488 ls [])) : W p l e room_1 s m #[Value.ref b] below meth c H locs cells slots Qm (F0 m 1322 ls []) := by
  have hx0 := hx
  obtain ⟨⟨hex, hb, hr, hml, hown, hts, hX, hbl, hlocks, hgv⟩, hK, hCs, hfm, hinj, hlo⟩ := hx
  have hbA : ¬ mw_A ad s.heap.size b := fun q => by
    rcases q with ⟨k, h1, h2⟩ | q
    · have := hlo k h1
      omega
    · omega
  have h_1 : vp_in (x3 + 1) L := by rw [ex, show (1 : Int32) = nI 1 from rfl, nI_add]; exact vp_in_nI (by omega) (by omega)
  obtain ⟨w1, ew1⟩ : ∃ y : Int32, y = xs (x3 + 1).toNatClampNeg := ⟨_, rfl⟩
  have h_2 : vp_in (x3 + 2) L := by rw [ex, show (2 : Int32) = nI 2 from rfl, nI_add]; exact vp_in_nI (by omega) (by omega)
  obtain ⟨w2, ew2⟩ : ∃ y : Int32, y = xs (x3 + 2).toNatClampNeg := ⟨_, rfl⟩
  have h_3 : vp_in (x3 + 3) L := by rw [ex, show (3 : Int32) = nI 3 from rfl, nI_add]; exact vp_in_nI (by omega) (by omega)
  obtain ⟨w3, ew3⟩ : ∃ y : Int32, y = xs (x3 + 3).toNatClampNeg := ⟨_, rfl⟩
  have h_4 : vp_in (x3 + 4) L := by rw [ex, show (4 : Int32) = nI 4 from rfl, nI_add]; exact vp_in_nI (by omega) (by omega)
  obtain ⟨w4, ew4⟩ : ∃ y : Int32, y = xs (x3 + 4).toNatClampNeg := ⟨_, rfl⟩
  obtain ⟨wL, eL⟩ : ∃ y : Int64, y = (w3.toInt64 <<< ((32 : Int32).toInt64 &&& 63)) ||| (w4.toInt64 &&& 4294967295) := ⟨_, rfl⟩
  refine lv_aload_n hex hb dl1322 rfl (lv_at hl 1 rfl) ?_
  refine lv_aload_n hex hb dl1323 rfl (lv_at hl 0 rfl) ?_
  refine lv_iload_n hex hb dl1324 rfl (lv_at hl 3 rfl) ?_
  refine lv_iconst (v := 1) hex hb dl1325 (by decide) ?_
  refine lv_iadd hex hb dl1326 ?_
  refine va_sld hex hb hX hbl hbA hS h_1 dl1327 ?_
  rw [← ew1]
  refine lv_aload_n hex hb dl1328 rfl (lv_at hl 0 rfl) ?_
  refine lv_iload_n hex hb dl1329 rfl (lv_at hl 3 rfl) ?_
  refine lv_iconst (v := 2) hex hb dl1330 (by decide) ?_
  refine lv_iadd hex hb dl1331 ?_
  refine va_sld hex hb hX hbl hbA hS h_2 dl1332 ?_
  rw [← ew2]
  refine lv_aload_n hex hb dl1333 rfl (lv_at hl 0 rfl) ?_
  refine lv_iload_n hex hb dl1334 rfl (lv_at hl 3 rfl) ?_
  refine lv_iconst (v := 3) hex hb dl1335 (by decide) ?_
  refine lv_iadd hex hb dl1336 ?_
  refine va_sld hex hb hX hbl hbA hS h_3 dl1337 ?_
  rw [← ew3]
  refine lv_i2l hex hb dl1338 rfl ?_
  refine lv_bipush (v := 32) hex hb dl1339 (by decide) ?_
  refine lv_lshl hex hb dl1341 rfl ?_
  refine lv_aload_n hex hb dl1342 rfl (lv_at hl 0 rfl) ?_
  refine lv_iload_n hex hb dl1343 rfl (lv_at hl 3 rfl) ?_
  refine lv_iconst (v := 4) hex hb dl1344 (by decide) ?_
  refine lv_iadd hex hb dl1345 ?_
  refine va_sld hex hb hX hbl hbA hS h_4 dl1346 ?_
  rw [← ew4]
  refine lv_i2l hex hb dl1347 rfl ?_
  refine lv_ldc2 (v := 4294967295) hex hb hown (hts (.constantLong R_law 154 4294967295) (by decide +kernel)) dl1348 ?_
  refine lv_land hex hb dl1351 ?_
  refine lv_lor hex hb dl1352 ?_
  rw [← eL]
  refine W.eq (g2 := F0 m 1353 ls (([jI w1.toInt, jI w2.toInt, jL wL.toInt].reverse ++ jR 0 :: []).map (mw_tr ad fm))) ?_ ?_
  · simp only [List.reverse_cons, List.reverse_nil, List.nil_append, List.cons_append, List.map_cons, List.map_nil, lq_tr, lq_trL]
    try rfl
  have hcall := hag n σ (w1.toInt) (w2.toInt) (wL.toInt) hn hI oS (in32_of _) (in32_of _) (in64_of _)
  refine lq_call hx0 mq152 (hlink := by decide +kernel) rfl rfl (by rw [lq_len]; decide) (Nat.le_of_ble_eq_true rfl) dl1353 hl.1 hc1 hc2 oS (fun v hv => by
      simp only [List.mem_cons, List.not_mem_nil, or_false] at hv
      rcases hv with rfl | rfl | rfl <;> first | exact in32_of _ | exact in64_of _ | exact ⟨by decide, by decide⟩) hP hS hcall (fun r σ1 H1 locs1 hcall2 oS1 okr hP1 hS1 => ?_)
  clear hP hS
  have hP := hP1
  have hS := hS1
  have hr1 : ∃ z, r = some (jL z) := by
    obtain ⟨r2, s2, -, ⟨z, h1, -⟩, -⟩ := hcall2
    exact ⟨z, h1⟩
  obtain ⟨z, rfl⟩ := hr1
  refine W.eq (g2 := F0 m 1356 ls [mw_tr ad fm (jL z)]) rfl ?_
  refine lv_aload_n hex hb dl1356 rfl (lv_at hl 2 rfl) ?_
  refine lv_aload_n hex hb dl1357 rfl (lv_at hl 0 rfl) ?_
  refine lv_iload_n hex hb dl1358 rfl (lv_at hl 3 rfl) ?_
  refine lv_iconst (v := 1) hex hb dl1359 (by decide) ?_
  refine lv_iadd hex hb dl1360 ?_
  refine va_sld hex hb hX hbl hbA hS h_1 dl1361 ?_
  rw [← ew1]
  refine lv_aload_n hex hb dl1362 rfl (lv_at hl 0 rfl) ?_
  refine lv_iload_n hex hb dl1363 rfl (lv_at hl 3 rfl) ?_
  refine lv_iconst (v := 2) hex hb dl1364 (by decide) ?_
  refine lv_iadd hex hb dl1365 ?_
  refine va_sld hex hb hX hbl hbA hS h_2 dl1366 ?_
  rw [← ew2]
  refine lv_aload_n hex hb dl1367 rfl (lv_at hl 0 rfl) ?_
  refine lv_iload_n hex hb dl1368 rfl (lv_at hl 3 rfl) ?_
  refine lv_iconst (v := 3) hex hb dl1369 (by decide) ?_
  refine lv_iadd hex hb dl1370 ?_
  refine va_sld hex hb hX hbl hbA hS h_3 dl1371 ?_
  rw [← ew3]
  refine lv_i2l hex hb dl1372 rfl ?_
  refine lv_bipush (v := 32) hex hb dl1373 (by decide) ?_
  refine lv_lshl hex hb dl1375 rfl ?_
  refine lv_aload_n hex hb dl1376 rfl (lv_at hl 0 rfl) ?_
  refine lv_iload_n hex hb dl1377 rfl (lv_at hl 3 rfl) ?_
  refine lv_iconst (v := 4) hex hb dl1378 (by decide) ?_
  refine lv_iadd hex hb dl1379 ?_
  refine va_sld hex hb hX hbl hbA hS h_4 dl1380 ?_
  rw [← ew4]
  refine lv_i2l hex hb dl1381 rfl ?_
  refine lv_ldc2 (v := 4294967295) hex hb hown (hts (.constantLong R_law 154 4294967295) (by decide +kernel)) dl1382 ?_
  refine lv_land hex hb dl1385 ?_
  refine lv_lor hex hb dl1386 ?_
  rw [← eL]
  refine W.eq (g2 := F0 m 1387 ls (([jI w1.toInt, jI w2.toInt, jL wL.toInt].reverse ++ jR 100 :: [jL z]).map (mw_tr ad fm))) ?_ ?_
  · simp only [List.reverse_cons, List.reverse_nil, List.nil_append, List.cons_append, List.map_cons, List.map_nil, lq_tr, lq_trL]
    try rfl
  refine lq_call hx0 mq274 (hlink := by decide +kernel) rfl rfl (by rw [lq_len]; decide) (Nat.le_of_ble_eq_true rfl) dl1387 hl.1 hc1 hc2 oS1 (fun v hv => by
      simp only [List.mem_cons, List.not_mem_nil, or_false] at hv
      rcases hv with rfl | rfl | rfl <;> first | exact in32_of _ | exact in64_of _ | exact ⟨by decide, by decide⟩) hP hS hcall2 (fun r σ2 H2 locs2 hq oS2 okr2 hP2 hS2 => ?_)
  obtain ⟨⟨z2, h1, rfl⟩, hI2⟩ := hq
  cases h1
  refine W.eq (g2 := F0 m 1390 ls [.long (i64 z), .long (i64 z)]) rfl ?_
  refine W.lcmp hex hb dl1390 ?_
  rw [lq_cmp]
  exact lv_if_eq (tgt := 1488) hex hb dl1391 (by decide) (fun _ => K σ2 H2 locs2 hI2 oS2 hP2 hS2) (fun q9 => absurd rfl q9)
set_option maxHeartbeats 4000000 in
theorem lq_c34 (hx : lq_Cx D ad cA fm p s m meth c b L xs) (hL : L ≤ 3072) {I : Nat → mw_S → Prop} (hag : ag_lists I) {n i : Nat} {x3 : Int32} (ex : x3 = nI i) (hi : i + 6 ≤ L) (hn : n < 512) {σ : mw_S} (hI : I n σ) (oS : mw_okS σ) {H : Heap} {locs : List Loc} {ls : Array Slot} (hP : va_P D vwCl (mw_ws ad cA σ) H) (hS : va_S (mw_A ad s.heap.size) s.heap H locs) (hl : lv_has ls 4 (lq_lv ad b x3)) {cells slots : Nat} (hc1 : cells ≤ 600000) (hc2 : slots ≤ 7302250)
    (K : ∀ (σ' : mw_S) (H' : Heap) (locs' : List Loc), I (n + 1) σ' → mw_okS σ' → va_P D vwCl (mw_ws ad cA σ') H' → va_S (mw_A ad s.heap.size) s.heap H' locs' → W p l e room_1 s m #[Value.ref b] below meth c H' locs' cells slots Qm (F0 m 1488 ls [])) : W p l e room_1 s m #[Value.ref b] below meth c H locs cells slots Qm (F0 m 1396 ls []) := by
  have hx0 := hx
  obtain ⟨⟨hex, hb, hr, hml, hown, hts, hX, hbl, hlocks, hgv⟩, hK, hCs, hfm, hinj, hlo⟩ := hx
  have hbA : ¬ mw_A ad s.heap.size b := fun q => by
    rcases q with ⟨k, h1, h2⟩ | q
    · have := hlo k h1
      omega
    · omega
  have h_1 : vp_in (x3 + 1) L := by rw [ex, show (1 : Int32) = nI 1 from rfl, nI_add]; exact vp_in_nI (by omega) (by omega)
  obtain ⟨w1, ew1⟩ : ∃ y : Int32, y = xs (x3 + 1).toNatClampNeg := ⟨_, rfl⟩
  refine lv_aload_n hex hb dl1396 rfl (lv_at hl 1 rfl) ?_
  refine lv_aload_n hex hb dl1397 rfl (lv_at hl 0 rfl) ?_
  refine lv_iload_n hex hb dl1398 rfl (lv_at hl 3 rfl) ?_
  refine lv_iconst (v := 1) hex hb dl1399 (by decide) ?_
  refine lv_iadd hex hb dl1400 ?_
  refine va_sld hex hb hX hbl hbA hS h_1 dl1401 ?_
  rw [← ew1]
  refine W.eq (g2 := F0 m 1402 ls (([jI w1.toInt].reverse ++ jR 0 :: []).map (mw_tr ad fm))) ?_ ?_
  · simp only [List.reverse_cons, List.reverse_nil, List.nil_append, List.cons_append, List.map_cons, List.map_nil, lq_tr, lq_trL]
    try rfl
  have hcall := hag n σ (w1.toInt) hn hI oS (in32_of _)
  refine lq_call hx0 mq153 (hlink := by decide +kernel) rfl rfl (by rw [lq_len]; decide) (Nat.le_of_ble_eq_true rfl) dl1402 hl.1 hc1 hc2 oS (fun v hv => by
      simp only [List.mem_cons, List.not_mem_nil, or_false] at hv
      rcases hv with rfl <;> first | exact in32_of _ | exact in64_of _ | exact ⟨by decide, by decide⟩) hP hS hcall (fun r σ1 H1 locs1 hcall2 oS1 okr hP1 hS1 => ?_)
  clear hP hS
  have hP := hP1
  have hS := hS1
  have hr1 : ∃ z, r = some (jI z) := by
    obtain ⟨r2, s2, -, ⟨z, h1, -⟩, -⟩ := hcall2
    exact ⟨z, h1⟩
  obtain ⟨z, rfl⟩ := hr1
  refine W.eq (g2 := F0 m 1405 ls [mw_tr ad fm (jI z)]) rfl ?_
  refine lv_aload_n hex hb dl1405 rfl (lv_at hl 2 rfl) ?_
  refine lv_aload_n hex hb dl1406 rfl (lv_at hl 0 rfl) ?_
  refine lv_iload_n hex hb dl1407 rfl (lv_at hl 3 rfl) ?_
  refine lv_iconst (v := 1) hex hb dl1408 (by decide) ?_
  refine lv_iadd hex hb dl1409 ?_
  refine va_sld hex hb hX hbl hbA hS h_1 dl1410 ?_
  rw [← ew1]
  refine W.eq (g2 := F0 m 1411 ls (([jI w1.toInt].reverse ++ jR 100 :: [jI z]).map (mw_tr ad fm))) ?_ ?_
  · simp only [List.reverse_cons, List.reverse_nil, List.nil_append, List.cons_append, List.map_cons, List.map_nil, lq_tr, lq_trL]
    try rfl
  refine lq_call hx0 mq275 (hlink := by decide +kernel) rfl rfl (by rw [lq_len]; decide) (Nat.le_of_ble_eq_true rfl) dl1411 hl.1 hc1 hc2 oS1 (fun v hv => by
      simp only [List.mem_cons, List.not_mem_nil, or_false] at hv
      rcases hv with rfl <;> first | exact in32_of _ | exact in64_of _ | exact ⟨by decide, by decide⟩) hP hS hcall2 (fun r σ2 H2 locs2 hq oS2 okr2 hP2 hS2 => ?_)
  obtain ⟨⟨z2, h1, rfl⟩, hI2⟩ := hq
  cases h1
  refine W.eq (g2 := F0 m 1414 ls [.int (i32 z), .int (i32 z)]) rfl ?_
  exact lv_icmp_eq (tgt := 1488) hex hb dl1414 (by decide) (fun _ => K σ2 H2 locs2 hI2 oS2 hP2 hS2) (fun q9 => absurd rfl q9)
set_option maxHeartbeats 4000000 in
theorem lq_c35 (hx : lq_Cx D ad cA fm p s m meth c b L xs) (hL : L ≤ 3072) {I : Nat → mw_S → Prop} (hag : ag_image I) {n i : Nat} {x3 : Int32} (ex : x3 = nI i) (hi : i + 6 ≤ L) (hn : n < 512) {σ : mw_S} (hI : I n σ) (oS : mw_okS σ) {H : Heap} {locs : List Loc} {ls : Array Slot} (hP : va_P D vwCl (mw_ws ad cA σ) H) (hS : va_S (mw_A ad s.heap.size) s.heap H locs) (hl : lv_has ls 4 (lq_lv ad b x3)) {cells slots : Nat} (hc1 : cells ≤ 600000) (hc2 : slots ≤ 7302250)
    (K : ∀ (σ' : mw_S) (H' : Heap) (locs' : List Loc), I (n + 1) σ' → mw_okS σ' → va_P D vwCl (mw_ws ad cA σ') H' → va_S (mw_A ad s.heap.size) s.heap H' locs' → W p l e room_1 s m #[Value.ref b] below meth c H' locs' cells slots Qm (F0 m 1488 ls [])) : W p l e room_1 s m #[Value.ref b] below meth c H locs cells slots Qm (F0 m 1419 ls []) := by
  have hx0 := hx
  obtain ⟨⟨hex, hb, hr, hml, hown, hts, hX, hbl, hlocks, hgv⟩, hK, hCs, hfm, hinj, hlo⟩ := hx
  have hbA : ¬ mw_A ad s.heap.size b := fun q => by
    rcases q with ⟨k, h1, h2⟩ | q
    · have := hlo k h1
      omega
    · omega
  have h_1 : vp_in (x3 + 1) L := by rw [ex, show (1 : Int32) = nI 1 from rfl, nI_add]; exact vp_in_nI (by omega) (by omega)
  obtain ⟨w1, ew1⟩ : ∃ y : Int32, y = xs (x3 + 1).toNatClampNeg := ⟨_, rfl⟩
  refine lv_aload_n hex hb dl1419 rfl (lv_at hl 1 rfl) ?_
  refine lv_aload_n hex hb dl1420 rfl (lv_at hl 0 rfl) ?_
  refine lv_iload_n hex hb dl1421 rfl (lv_at hl 3 rfl) ?_
  refine lv_iconst (v := 1) hex hb dl1422 (by decide) ?_
  refine lv_iadd hex hb dl1423 ?_
  refine va_sld hex hb hX hbl hbA hS h_1 dl1424 ?_
  rw [← ew1]
  refine W.eq (g2 := F0 m 1425 ls (([jI w1.toInt].reverse ++ jR 0 :: []).map (mw_tr ad fm))) ?_ ?_
  · simp only [List.reverse_cons, List.reverse_nil, List.nil_append, List.cons_append, List.map_cons, List.map_nil, lq_tr, lq_trL]
    try rfl
  have hcall := hag n σ (w1.toInt) hn hI oS (in32_of _)
  refine lq_call hx0 mq154 (hlink := by decide +kernel) rfl rfl (by rw [lq_len]; decide) (Nat.le_of_ble_eq_true rfl) dl1425 hl.1 hc1 hc2 oS (fun v hv => by
      simp only [List.mem_cons, List.not_mem_nil, or_false] at hv
      rcases hv with rfl <;> first | exact in32_of _ | exact in64_of _ | exact ⟨by decide, by decide⟩) hP hS hcall (fun r σ1 H1 locs1 hcall2 oS1 okr hP1 hS1 => ?_)
  clear hP hS
  have hP := hP1
  have hS := hS1
  have hr1 : ∃ z, r = some (jI z) := by
    obtain ⟨r2, s2, -, ⟨z, h1, -⟩, -⟩ := hcall2
    exact ⟨z, h1⟩
  obtain ⟨z, rfl⟩ := hr1
  refine W.eq (g2 := F0 m 1428 ls [mw_tr ad fm (jI z)]) rfl ?_
  refine lv_aload_n hex hb dl1428 rfl (lv_at hl 2 rfl) ?_
  refine lv_aload_n hex hb dl1429 rfl (lv_at hl 0 rfl) ?_
  refine lv_iload_n hex hb dl1430 rfl (lv_at hl 3 rfl) ?_
  refine lv_iconst (v := 1) hex hb dl1431 (by decide) ?_
  refine lv_iadd hex hb dl1432 ?_
  refine va_sld hex hb hX hbl hbA hS h_1 dl1433 ?_
  rw [← ew1]
  refine W.eq (g2 := F0 m 1434 ls (([jI w1.toInt].reverse ++ jR 100 :: [jI z]).map (mw_tr ad fm))) ?_ ?_
  · simp only [List.reverse_cons, List.reverse_nil, List.nil_append, List.cons_append, List.map_cons, List.map_nil, lq_tr, lq_trL]
    try rfl
  refine lq_call hx0 mq276 (hlink := by decide +kernel) rfl rfl (by rw [lq_len]; decide) (Nat.le_of_ble_eq_true rfl) dl1434 hl.1 hc1 hc2 oS1 (fun v hv => by
      simp only [List.mem_cons, List.not_mem_nil, or_false] at hv
      rcases hv with rfl <;> first | exact in32_of _ | exact in64_of _ | exact ⟨by decide, by decide⟩) hP hS hcall2 (fun r σ2 H2 locs2 hq oS2 okr2 hP2 hS2 => ?_)
  obtain ⟨⟨z2, h1, rfl⟩, hI2⟩ := hq
  cases h1
  refine W.eq (g2 := F0 m 1437 ls [.int (i32 z), .int (i32 z)]) rfl ?_
  exact lv_icmp_eq (tgt := 1488) hex hb dl1437 (by decide) (fun _ => K σ2 H2 locs2 hI2 oS2 hP2 hS2) (fun q9 => absurd rfl q9)
set_option maxHeartbeats 4000000 in
theorem lq_c36 (hx : lq_Cx D ad cA fm p s m meth c b L xs) (hL : L ≤ 3072) {I : Nat → mw_S → Prop} (hag : ag_restore I) {n i : Nat} {x3 : Int32} (ex : x3 = nI i) (hi : i + 6 ≤ L) (hn : n < 512) {σ : mw_S} (hI : I n σ) (oS : mw_okS σ) {H : Heap} {locs : List Loc} {ls : Array Slot} (hP : va_P D vwCl (mw_ws ad cA σ) H) (hS : va_S (mw_A ad s.heap.size) s.heap H locs) (hl : lv_has ls 4 (lq_lv ad b x3)) {cells slots : Nat} (hc1 : cells ≤ 600000) (hc2 : slots ≤ 7302250)
    (K : ∀ (σ' : mw_S) (H' : Heap) (locs' : List Loc), I (n + 1) σ' → mw_okS σ' → va_P D vwCl (mw_ws ad cA σ') H' → va_S (mw_A ad s.heap.size) s.heap H' locs' → W p l e room_1 s m #[Value.ref b] below meth c H' locs' cells slots Qm (F0 m 1488 ls [])) : W p l e room_1 s m #[Value.ref b] below meth c H locs cells slots Qm (F0 m 1442 ls []) := by
  have hx0 := hx
  obtain ⟨⟨hex, hb, hr, hml, hown, hts, hX, hbl, hlocks, hgv⟩, hK, hCs, hfm, hinj, hlo⟩ := hx
  have hbA : ¬ mw_A ad s.heap.size b := fun q => by
    rcases q with ⟨k, h1, h2⟩ | q
    · have := hlo k h1
      omega
    · omega
  have h_1 : vp_in (x3 + 1) L := by rw [ex, show (1 : Int32) = nI 1 from rfl, nI_add]; exact vp_in_nI (by omega) (by omega)
  obtain ⟨w1, ew1⟩ : ∃ y : Int32, y = xs (x3 + 1).toNatClampNeg := ⟨_, rfl⟩
  refine lv_aload_n hex hb dl1442 rfl (lv_at hl 1 rfl) ?_
  refine lv_aload_n hex hb dl1443 rfl (lv_at hl 0 rfl) ?_
  refine lv_iload_n hex hb dl1444 rfl (lv_at hl 3 rfl) ?_
  refine lv_iconst (v := 1) hex hb dl1445 (by decide) ?_
  refine lv_iadd hex hb dl1446 ?_
  refine va_sld hex hb hX hbl hbA hS h_1 dl1447 ?_
  rw [← ew1]
  refine W.eq (g2 := F0 m 1448 ls (([jI w1.toInt].reverse ++ jR 0 :: []).map (mw_tr ad fm))) ?_ ?_
  · simp only [List.reverse_cons, List.reverse_nil, List.nil_append, List.cons_append, List.map_cons, List.map_nil, lq_tr, lq_trL]
    try rfl
  have hcall := hag n σ (w1.toInt) hn hI oS (in32_of _)
  refine lq_call hx0 mq155 (hlink := by decide +kernel) rfl rfl (by rw [lq_len]; decide) (Nat.le_of_ble_eq_true rfl) dl1448 hl.1 hc1 hc2 oS (fun v hv => by
      simp only [List.mem_cons, List.not_mem_nil, or_false] at hv
      rcases hv with rfl <;> first | exact in32_of _ | exact in64_of _ | exact ⟨by decide, by decide⟩) hP hS hcall (fun r σ1 H1 locs1 hcall2 oS1 okr hP1 hS1 => ?_)
  clear hP hS
  have hP := hP1
  have hS := hS1
  have hr1 : ∃ z, r = some (jI z) := by
    obtain ⟨r2, s2, -, ⟨z, h1, -⟩, -⟩ := hcall2
    exact ⟨z, h1⟩
  obtain ⟨z, rfl⟩ := hr1
  refine W.eq (g2 := F0 m 1451 ls [mw_tr ad fm (jI z)]) rfl ?_
  refine lv_aload_n hex hb dl1451 rfl (lv_at hl 2 rfl) ?_
  refine lv_aload_n hex hb dl1452 rfl (lv_at hl 0 rfl) ?_
  refine lv_iload_n hex hb dl1453 rfl (lv_at hl 3 rfl) ?_
  refine lv_iconst (v := 1) hex hb dl1454 (by decide) ?_
  refine lv_iadd hex hb dl1455 ?_
  refine va_sld hex hb hX hbl hbA hS h_1 dl1456 ?_
  rw [← ew1]
  refine W.eq (g2 := F0 m 1457 ls (([jI w1.toInt].reverse ++ jR 100 :: [jI z]).map (mw_tr ad fm))) ?_ ?_
  · simp only [List.reverse_cons, List.reverse_nil, List.nil_append, List.cons_append, List.map_cons, List.map_nil, lq_tr, lq_trL]
    try rfl
  refine lq_call hx0 mq277 (hlink := by decide +kernel) rfl rfl (by rw [lq_len]; decide) (Nat.le_of_ble_eq_true rfl) dl1457 hl.1 hc1 hc2 oS1 (fun v hv => by
      simp only [List.mem_cons, List.not_mem_nil, or_false] at hv
      rcases hv with rfl <;> first | exact in32_of _ | exact in64_of _ | exact ⟨by decide, by decide⟩) hP hS hcall2 (fun r σ2 H2 locs2 hq oS2 okr2 hP2 hS2 => ?_)
  obtain ⟨⟨z2, h1, rfl⟩, hI2⟩ := hq
  cases h1
  refine W.eq (g2 := F0 m 1460 ls [.int (i32 z), .int (i32 z)]) rfl ?_
  exact lv_icmp_eq (tgt := 1488) hex hb dl1460 (by decide) (fun _ => K σ2 H2 locs2 hI2 oS2 hP2 hS2) (fun q9 => absurd rfl q9)
set_option maxHeartbeats 4000000 in
theorem lq_c37 (hx : lq_Cx D ad cA fm p s m meth c b L xs) (hL : L ≤ 3072) {I : Nat → mw_S → Prop} (hag : ag_count I) {n i : Nat} {x3 : Int32} (ex : x3 = nI i) (hi : i + 6 ≤ L) (hn : n < 512) {σ : mw_S} (hI : I n σ) (oS : mw_okS σ) {H : Heap} {locs : List Loc} {ls : Array Slot} (hP : va_P D vwCl (mw_ws ad cA σ) H) (hS : va_S (mw_A ad s.heap.size) s.heap H locs) (hl : lv_has ls 4 (lq_lv ad b x3)) {cells slots : Nat} (hc1 : cells ≤ 600000) (hc2 : slots ≤ 7302250)
    (K : ∀ (σ' : mw_S) (H' : Heap) (locs' : List Loc), I (n + 1) σ' → mw_okS σ' → va_P D vwCl (mw_ws ad cA σ') H' → va_S (mw_A ad s.heap.size) s.heap H' locs' → W p l e room_1 s m #[Value.ref b] below meth c H' locs' cells slots Qm (F0 m 1488 ls [])) : W p l e room_1 s m #[Value.ref b] below meth c H locs cells slots Qm (F0 m 1465 ls []) := by
  have hx0 := hx
  obtain ⟨⟨hex, hb, hr, hml, hown, hts, hX, hbl, hlocks, hgv⟩, hK, hCs, hfm, hinj, hlo⟩ := hx
  have hbA : ¬ mw_A ad s.heap.size b := fun q => by
    rcases q with ⟨k, h1, h2⟩ | q
    · have := hlo k h1
      omega
    · omega
  have h_1 : vp_in (x3 + 1) L := by rw [ex, show (1 : Int32) = nI 1 from rfl, nI_add]; exact vp_in_nI (by omega) (by omega)
  obtain ⟨w1, ew1⟩ : ∃ y : Int32, y = xs (x3 + 1).toNatClampNeg := ⟨_, rfl⟩
  refine lv_aload_n hex hb dl1465 rfl (lv_at hl 1 rfl) ?_
  refine lv_aload_n hex hb dl1466 rfl (lv_at hl 0 rfl) ?_
  refine lv_iload_n hex hb dl1467 rfl (lv_at hl 3 rfl) ?_
  refine lv_iconst (v := 1) hex hb dl1468 (by decide) ?_
  refine lv_iadd hex hb dl1469 ?_
  refine va_sld hex hb hX hbl hbA hS h_1 dl1470 ?_
  rw [← ew1]
  refine W.eq (g2 := F0 m 1471 ls (([jI w1.toInt].reverse ++ jR 0 :: []).map (mw_tr ad fm))) ?_ ?_
  · simp only [List.reverse_cons, List.reverse_nil, List.nil_append, List.cons_append, List.map_cons, List.map_nil, lq_tr, lq_trL]
    try rfl
  have hcall := hag n σ (w1.toInt) hn hI oS (in32_of _)
  refine lq_call hx0 mq156 (hlink := by decide +kernel) rfl rfl (by rw [lq_len]; decide) (Nat.le_of_ble_eq_true rfl) dl1471 hl.1 hc1 hc2 oS (fun v hv => by
      simp only [List.mem_cons, List.not_mem_nil, or_false] at hv
      rcases hv with rfl <;> first | exact in32_of _ | exact in64_of _ | exact ⟨by decide, by decide⟩) hP hS hcall (fun r σ1 H1 locs1 hcall2 oS1 okr hP1 hS1 => ?_)
  clear hP hS
  have hP := hP1
  have hS := hS1
  have hr1 : ∃ z, r = some (jI z) := by
    obtain ⟨r2, s2, -, ⟨z, h1, -⟩, -⟩ := hcall2
    exact ⟨z, h1⟩
  obtain ⟨z, rfl⟩ := hr1
  refine W.eq (g2 := F0 m 1474 ls [mw_tr ad fm (jI z)]) rfl ?_
  refine lv_aload_n hex hb dl1474 rfl (lv_at hl 2 rfl) ?_
  refine lv_aload_n hex hb dl1475 rfl (lv_at hl 0 rfl) ?_
  refine lv_iload_n hex hb dl1476 rfl (lv_at hl 3 rfl) ?_
  refine lv_iconst (v := 1) hex hb dl1477 (by decide) ?_
  refine lv_iadd hex hb dl1478 ?_
  refine va_sld hex hb hX hbl hbA hS h_1 dl1479 ?_
  rw [← ew1]
  refine W.eq (g2 := F0 m 1480 ls (([jI w1.toInt].reverse ++ jR 100 :: [jI z]).map (mw_tr ad fm))) ?_ ?_
  · simp only [List.reverse_cons, List.reverse_nil, List.nil_append, List.cons_append, List.map_cons, List.map_nil, lq_tr, lq_trL]
    try rfl
  refine lq_call hx0 mq278 (hlink := by decide +kernel) rfl rfl (by rw [lq_len]; decide) (Nat.le_of_ble_eq_true rfl) dl1480 hl.1 hc1 hc2 oS1 (fun v hv => by
      simp only [List.mem_cons, List.not_mem_nil, or_false] at hv
      rcases hv with rfl <;> first | exact in32_of _ | exact in64_of _ | exact ⟨by decide, by decide⟩) hP hS hcall2 (fun r σ2 H2 locs2 hq oS2 okr2 hP2 hS2 => ?_)
  obtain ⟨⟨z2, h1, rfl⟩, hI2⟩ := hq
  cases h1
  refine W.eq (g2 := F0 m 1483 ls [.int (i32 z), .int (i32 z)]) rfl ?_
  exact lv_icmp_eq (tgt := 1488) hex hb dl1483 (by decide) (fun _ => K σ2 H2 locs2 hI2 oS2 hP2 hS2) (fun q9 => absurd rfl q9)
def lq_ag (I : Nat → mw_S → Prop) : Prop := ag_feed I ∧ ag_arcade I ∧ ag_fault I ∧ ag_person I ∧ ag_copy I ∧ ag_thing I ∧ ag_can I ∧ ag_would I ∧ ag_step I ∧ ag_undo I ∧ ag_judge I ∧ ag_perform I ∧ ag_day I ∧ ag_fails I ∧ ag_round I ∧ ag_soonest I ∧ ag_states I ∧ ag_reach I ∧ ag_fits I ∧ ag_smallest I ∧ ag_sure I ∧ ag_telling I ∧ ag_meant I ∧ ag_maybe I ∧ ag_odds I ∧ ag_win I ∧ ag_wins I ∧ ag_lends I ∧ ag_owes I ∧ ag_balance I ∧ ag_clear I ∧ ag_payments I ∧ ag_numbers I ∧ ag_write I ∧ ag_lists I ∧ ag_image I ∧ ag_restore I ∧ ag_count I
theorem lq_63 (x : Int32) : ∃ k : Nat, k < 64 ∧ x &&& 63 = nI k := by
  obtain ⟨j, h1, h2⟩ := pk_andE x (m := 63) 6 (by decide)
  exact ⟨j, h1, h2⟩
set_option maxHeartbeats 4000000 in
set_option maxRecDepth 100000 in
/-- the law's loop -/
theorem lq_loop (hx : lq_Cx D ad cA fm p s m meth c b L xs) (hL : L ≤ 3072) {I : Nat → mw_S → Prop} (hag : lq_ag I) (hskip : ∀ n σ, I n σ → I (n + 1) σ) : ∀ (f n i : Nat) (x3 : Int32) (σ : mw_S) (H : Heap) (locs : List Loc) (ls : Array Slot) (cells slots : Nat), i = 6 * n → L + 6 ≤ i + f → x3 = nI i → i ≤ 3078 → (n = 0 ∨ i ≤ L) → I n σ → mw_okS σ → va_P D vwCl (mw_ws ad cA σ) H → va_S (mw_A ad s.heap.size) s.heap H locs → lv_has ls 4 (lq_lv ad b x3) → cells ≤ 600000 → slots ≤ 7302250 → W p l e room_1 s m #[Value.ref b] below meth c H locs cells slots (lw_Z below #[Value.ref b] s) (F0 m 18 ls []) := by
  obtain ⟨g0, g1, g2, g3, g4, g5, g6, g7, g8, g9, g10, g11, g12, g13, g14, g15, g16, g17, g18, g19, g20, g21, g22, g23, g24, g25, g26, g27, g28, g29, g30, g31, g32, g33, g34, g35, g36, g37⟩ := hag
  intro f
  induction f with
  | zero =>
    intro n i x3 σ H locs ls cells slots ei hf ex hi hin hI oS hP hS hl hc1 hc2
    omega
  | succ f ih =>
    intro n i x3 σ H locs ls cells slots ei hf ex hi hin hI oS hP hS hl hc1 hc2
    have hx0 := hx
    obtain ⟨⟨hex, hb, hr, hml, hown, hts, hX, hbl, hlocks, hgv⟩, hK, hCs, hfm, hinj, hlo⟩ := hx
    have hbA : ¬ mw_A ad s.heap.size b := fun q => by
      rcases q with ⟨k, h1, h2⟩ | q
      · have := hlo k h1
        omega
      · omega
    refine lv_iload_n hex hb dl18 rfl (lv_at hl 3 rfl) ?_
    refine lv_aload_n hex hb dl19 rfl (lv_at hl 0 rfl) ?_
    refine va_slen hex hb hX hbl hbA hS dl20 ?_
    refine lv_bipush (v := 6) hex hb dl21 (by decide) ?_
    refine lv_isub hex hb dl23 ?_
    have tL : (Int32.ofNat L - 6).toInt = (L : Int) - 6 := by
      have := pk_sub_toInt (a := L) (b := 6) (by omega) (by omega)
      exact this
    have t3 : x3.toInt = (i : Int) := by rw [ex]; exact nI_toInt (by omega)
    refine lv_icmp_gt (tgt := 1494) hex hb dl24 (by decide) (fun q => ?_) (fun q => ?_)
    · refine lv_iconst (v := 1) hex hb dl1494 (by decide) ?_
      refine va_forget (fun q9 hq9 => ?_) ?_
      · rcases hS.2.2 q9 hq9 with ⟨k, h1, h2⟩ | h9
        · have := hlo k h1
          omega
        · exact h9
      · refine W.widen (k := 600000) (n := 7302250) hc1 hc2 ?_
        exact lw_ret hex hb hr hlocks dl1495
    · have hle : i + 6 ≤ L := by
        rw [Int32.lt_iff_toInt_lt, tL, t3] at q
        omega
      have hn : n < 512 := by omega
      have h_0 : vp_in x3 L := by rw [ex]; exact vp_in_nI (by omega) (by omega)
      refine lv_aload_n hex hb dl27 rfl (lv_at hl 0 rfl) ?_
      refine lv_iload_n hex hb dl28 rfl (lv_at hl 3 rfl) ?_
      refine va_sld hex hb hX hbl hbA hS h_0 dl29 ?_
      refine lv_bipush (v := 63) hex hb dl30 (by decide) ?_
      refine lv_iand hex hb dl32 ?_
      obtain ⟨k, hk, ek⟩ := lq_63 (xs x3.toNatClampNeg)
      rw [ek]
      have tk : (nI k).toInt = (k : Int) := nI_toInt (by omega)
      have K : ∀ (σ' : mw_S) (H' : Heap) (locs' : List Loc), I (n + 1) σ' → mw_okS σ' → va_P D vwCl (mw_ws ad cA σ') H' → va_S (mw_A ad s.heap.size) s.heap H' locs' → W p l e room_1 s m #[Value.ref b] below meth c H' locs' cells slots (lw_Z below #[Value.ref b] s) (F0 m 1488 ls []) := by
        intro σ' H' locs' hI' oS' hP' hS'
        obtain ⟨y3, ey3⟩ : ∃ y : Int32, y = x3 + 6 := ⟨_, rfl⟩
        refine lv_iinc (v := y3) (lv' := [(3, .int y3), (0, .ref b), (1, .ref (ad 0)), (2, .ref (ad 100))]) hex hb dl1488 hl (k := 3) rfl (by rw [ey3]; rfl) (by decide) rfl (fun ls hl => ?_)
        refine lv_goto (tgt := 18) hex hb dl1491 (by decide) ?_
        exact ih (n + 1) (i + 6) y3 σ' H' locs' ls cells slots (by omega) (by omega) (by rw [ey3, ex, show (6 : Int32) = nI 6 from rfl, nI_add]) (by omega) (Or.inr hle) hI' oS' hP' hS' (lv_sub hl [1, 2, 3, 0] rfl) hc1 hc2
      by_cases hk38 : k < 38
      · have hsw : ∀ (off : Int) (tgt : Nat), #[167, 230, 253, 276, 309, 342, 365, 398, 431, 454, 477, 510, 533, 566, 599, 632, 685, 718, 751, 774, 807, 830, 863, 906, 949, 993, 1036, 1069, 1112, 1171, 1220, 1233, 1246, 1289, 1363, 1386, 1409, 1432][k]? = some off → (33 : Int) + off = tgt → W p l e room_1 s m #[Value.ref b] below meth c H locs cells slots (lw_Z below #[Value.ref b] s) (F0 m tgt ls []) → W p l e room_1 s m #[Value.ref b] below meth c H locs cells slots (lw_Z below #[Value.ref b] s) (F0 m 33 ls [.int (nI k)]) := fun off tgt h1 h2 h3 => lv_tableIn hex hb dl33 (by rw [tk]; omega) (by rw [tk]; omega) (by rw [tk, show ((k : Int) - 0).toNat = k by omega]; exact h1) h2 h3
        match k, hk38 with
        | 0, _ => exact hsw 167 200 rfl (by decide) (lq_c0 hx0 hL g0 ex hle hn hI oS hP hS hl hc1 hc2 K)
        | 1, _ => exact hsw 230 263 rfl (by decide) (lq_c1 hx0 hL g1 ex hle hn hI oS hP hS hl hc1 hc2 K)
        | 2, _ => exact hsw 253 286 rfl (by decide) (lq_c2 hx0 hL g2 ex hle hn hI oS hP hS hl hc1 hc2 K)
        | 3, _ => exact hsw 276 309 rfl (by decide) (lq_c3 hx0 hL g3 ex hle hn hI oS hP hS hl hc1 hc2 K)
        | 4, _ => exact hsw 309 342 rfl (by decide) (lq_c4 hx0 hL g4 ex hle hn hI oS hP hS hl hc1 hc2 K)
        | 5, _ => exact hsw 342 375 rfl (by decide) (lq_c5 hx0 hL g5 ex hle hn hI oS hP hS hl hc1 hc2 K)
        | 6, _ => exact hsw 365 398 rfl (by decide) (lq_c6 hx0 hL g6 ex hle hn hI oS hP hS hl hc1 hc2 K)
        | 7, _ => exact hsw 398 431 rfl (by decide) (lq_c7 hx0 hL g7 ex hle hn hI oS hP hS hl hc1 hc2 K)
        | 8, _ => exact hsw 431 464 rfl (by decide) (lq_c8 hx0 hL g8 ex hle hn hI oS hP hS hl hc1 hc2 K)
        | 9, _ => exact hsw 454 487 rfl (by decide) (lq_c9 hx0 hL g9 ex hle hn hI oS hP hS hl hc1 hc2 K)
        | 10, _ => exact hsw 477 510 rfl (by decide) (lq_c10 hx0 hL g10 ex hle hn hI oS hP hS hl hc1 hc2 K)
        | 11, _ => exact hsw 510 543 rfl (by decide) (lq_c11 hx0 hL g11 ex hle hn hI oS hP hS hl hc1 hc2 K)
        | 12, _ => exact hsw 533 566 rfl (by decide) (lq_c12 hx0 hL g12 ex hle hn hI oS hP hS hl hc1 hc2 K)
        | 13, _ => exact hsw 566 599 rfl (by decide) (lq_c13 hx0 hL g13 ex hle hn hI oS hP hS hl hc1 hc2 K)
        | 14, _ => exact hsw 599 632 rfl (by decide) (lq_c14 hx0 hL g14 ex hle hn hI oS hP hS hl hc1 hc2 K)
        | 15, _ => exact hsw 632 665 rfl (by decide) (lq_c15 hx0 hL g15 ex hle hn hI oS hP hS hl hc1 hc2 K)
        | 16, _ => exact hsw 685 718 rfl (by decide) (lq_c16 hx0 hL g16 ex hle hn hI oS hP hS hl hc1 hc2 K)
        | 17, _ => exact hsw 718 751 rfl (by decide) (lq_c17 hx0 hL g17 ex hle hn hI oS hP hS hl hc1 hc2 K)
        | 18, _ => exact hsw 751 784 rfl (by decide) (lq_c18 hx0 hL g18 ex hle hn hI oS hP hS hl hc1 hc2 K)
        | 19, _ => exact hsw 774 807 rfl (by decide) (lq_c19 hx0 hL g19 ex hle hn hI oS hP hS hl hc1 hc2 K)
        | 20, _ => exact hsw 807 840 rfl (by decide) (lq_c20 hx0 hL g20 ex hle hn hI oS hP hS hl hc1 hc2 K)
        | 21, _ => exact hsw 830 863 rfl (by decide) (lq_c21 hx0 hL g21 ex hle hn hI oS hP hS hl hc1 hc2 K)
        | 22, _ => exact hsw 863 896 rfl (by decide) (lq_c22 hx0 hL g22 ex hle hn hI oS hP hS hl hc1 hc2 K)
        | 23, _ => exact hsw 906 939 rfl (by decide) (lq_c23 hx0 hL g23 ex hle hn hI oS hP hS hl hc1 hc2 K)
        | 24, _ => exact hsw 949 982 rfl (by decide) (lq_c24 hx0 hL g24 ex hle hn hI oS hP hS hl hc1 hc2 K)
        | 25, _ => exact hsw 993 1026 rfl (by decide) (lq_c25 hx0 hL g25 ex hle hn hI oS hP hS hl hc1 hc2 K)
        | 26, _ => exact hsw 1036 1069 rfl (by decide) (lq_c26 hx0 hL g26 ex hle hn hI oS hP hS hl hc1 hc2 K)
        | 27, _ => exact hsw 1069 1102 rfl (by decide) (lq_c27 hx0 hL g27 ex hle hn hI oS hP hS hl hc1 hc2 K)
        | 28, _ => exact hsw 1112 1145 rfl (by decide) (lq_c28 hx0 hL g28 ex hle hn hI oS hP hS hl hc1 hc2 K)
        | 29, _ => exact hsw 1171 1204 rfl (by decide) (lq_c29 hx0 hL g29 ex hle hn hI oS hP hS hl hc1 hc2 K)
        | 30, _ => exact hsw 1220 1253 rfl (by decide) (lq_c30 hx0 hL g30 ex hle hn hI oS hP hS hl hc1 hc2 K)
        | 31, _ => exact hsw 1233 1266 rfl (by decide) (lq_c31 hx0 hL g31 ex hle hn hI oS hP hS hl hc1 hc2 K)
        | 32, _ => exact hsw 1246 1279 rfl (by decide) (lq_c32 hx0 hL g32 ex hle hn hI oS hP hS hl hc1 hc2 K)
        | 33, _ => exact hsw 1289 1322 rfl (by decide) (lq_c33 hx0 hL g33 ex hle hn hI oS hP hS hl hc1 hc2 K)
        | 34, _ => exact hsw 1363 1396 rfl (by decide) (lq_c34 hx0 hL g34 ex hle hn hI oS hP hS hl hc1 hc2 K)
        | 35, _ => exact hsw 1386 1419 rfl (by decide) (lq_c35 hx0 hL g35 ex hle hn hI oS hP hS hl hc1 hc2 K)
        | 36, _ => exact hsw 1409 1442 rfl (by decide) (lq_c36 hx0 hL g36 ex hle hn hI oS hP hS hl hc1 hc2 K)
        | 37, _ => exact hsw 1432 1465 rfl (by decide) (lq_c37 hx0 hL g37 ex hle hn hI oS hP hS hl hc1 hc2 K)
        | k + 38, h => omega
      · refine lv_tableOut hex hb dl33 (Or.inr (by rw [tk]; omega)) (tgt := 1488) (by decide) ?_
        exact K σ H locs (hskip n σ hI) oS hP hS
end LAW

