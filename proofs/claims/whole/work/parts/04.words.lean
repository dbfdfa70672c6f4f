theorem kX0_init : (Cond.code yX0_init cX0_init 1 none) ∈ wsG := wGi 49 rfl rfl
theorem aX0_init : ∀ w ∈ wsX0_init, w ∈ wsG := cG kX0_init
theorem kX0_nodes : (Cond.code yX0_nodes cX0_nodes 1 (some .int)) ∈ wsG := wGi 91 rfl rfl
theorem aX0_nodes : ∀ w ∈ wsX0_nodes, w ∈ wsG := cG kX0_nodes
theorem kX0_inputs : (Cond.code yX0_inputs cX0_inputs 1 (some .int)) ∈ wsG := wGi 95 rfl rfl
theorem aX0_inputs : ∀ w ∈ wsX0_inputs, w ∈ wsG := cG kX0_inputs
theorem kL_input : (Cond.codeWith yL_input cL_input 3 (some .int) [(0, 8, 11, 13)]) ∈ wsG := wGi 98 rfl rfl
theorem aL_input : ∀ w ∈ wsL_input, w ∈ wsG := cG kL_input
theorem kX0_input : (Cond.code yX0_input cX0_input 2 (some .int)) ∈ wsG := wGi 103 rfl rfl
theorem aX0_input : ∀ w ∈ wsX0_input, w ∈ wsG := cG kX0_input
theorem kX0_newNode : (Cond.code yX0_newNode cX0_newNode 4 (some .int)) ∈ wsG := wGi 107 rfl rfl
theorem aX0_newNode : ∀ w ∈ wsX0_newNode, w ∈ wsG := cG kX0_newNode
theorem kX0_growRows : (Cond.code yX0_growRows cX0_growRows 2 none) ∈ wsG := wGi 178 rfl rfl
theorem aX0_growRows : ∀ w ∈ wsX0_growRows, w ∈ wsG := cG kX0_growRows
theorem kJ7_copyOf : (Cond.code yJ7_copyOf cJ7_copyOf 3 (some (.array .int))) ∈ wsG := wGi 181 rfl rfl
theorem aJ7_copyOf : ∀ w ∈ wsJ7_copyOf, w ∈ wsG := cG kJ7_copyOf
theorem kL_and : (Cond.codeWith yL_and cL_and 5 (some .int) [(0, 10, 13, 19), (0, 10, 17, 13)]) ∈ wsG := wGi 197 rfl rfl
theorem aL_and : ∀ w ∈ wsL_and, w ∈ wsG := cG kL_and
theorem kX0_and : (Cond.code yX0_and cX0_and 3 (some .int)) ∈ wsG := wGi 202 rfl rfl
theorem aX0_and : ∀ w ∈ wsX0_and, w ∈ wsG := cG kX0_and
theorem kX0_needLiteral : (Cond.code yX0_needLiteral cX0_needLiteral 2 none) ∈ wsG := wGi 206 rfl rfl
theorem aX0_needLiteral : ∀ w ∈ wsX0_needLiteral, w ∈ wsG := cG kX0_needLiteral
theorem kX0_andOf : (Cond.code yX0_andOf cX0_andOf 8 (some .int)) ∈ wsG := wGi 226 rfl rfl
theorem aX0_andOf : ∀ w ∈ wsX0_andOf, w ∈ wsG := cG kX0_andOf
theorem kX0_knownAnd : (Cond.code yX0_knownAnd cX0_knownAnd 4 (some .int)) ∈ wsG := wGi 234 rfl rfl
theorem aX0_knownAnd : ∀ w ∈ wsX0_knownAnd, w ∈ wsG := cG kX0_knownAnd
theorem kX0_not : (Cond.code yX0_not cX0_not 1 (some .int)) ∈ wsG := wGi 237 rfl rfl
theorem aX0_not : ∀ w ∈ wsX0_not, w ∈ wsG := cG kX0_not
theorem kX0_isGate : (Cond.code yX0_isGate cX0_isGate 2 (some .boolean)) ∈ wsG := wGi 241 rfl rfl
theorem aX0_isGate : ∀ w ∈ wsX0_isGate, w ∈ wsG := cG kX0_isGate
theorem kX0_isNegated : (Cond.code yX0_isNegated cX0_isNegated 1 (some .boolean)) ∈ wsG := wGi 244 rfl rfl
theorem aX0_isNegated : ∀ w ∈ wsX0_isNegated, w ∈ wsG := cG kX0_isNegated
theorem kX0_hasLiteral : (Cond.code yX0_hasLiteral cX0_hasLiteral 3 (some .boolean)) ∈ wsG := wGi 248 rfl rfl
theorem aX0_hasLiteral : ∀ w ∈ wsX0_hasLiteral, w ∈ wsG := cG kX0_hasLiteral
theorem kX0_isGateAgainst : (Cond.code yX0_isGateAgainst cX0_isGateAgainst 4 (some .boolean)) ∈ wsG := wGi 252 rfl rfl
theorem aX0_isGateAgainst : ∀ w ∈ wsX0_isGateAgainst, w ∈ wsG := cG kX0_isGateAgainst
theorem kX0_restOf : (Cond.code yX0_restOf cX0_restOf 4 (some .int)) ∈ wsG := wGi 256 rfl rfl
theorem aX0_restOf : ∀ w ∈ wsX0_restOf, w ∈ wsG := cG kX0_restOf
theorem kX0_gateOf : (Cond.code yX0_gateOf cX0_gateOf 5 (some .int)) ∈ wsG := wGi 260 rfl rfl
theorem aX0_gateOf : ∀ w ∈ wsX0_gateOf, w ∈ wsG := cG kX0_gateOf
theorem kX0_enterGate : (Cond.code yX0_enterGate cX0_enterGate 4 none) ∈ wsG := wGi 264 rfl rfl
theorem aX0_enterGate : ∀ w ∈ wsX0_enterGate, w ∈ wsG := cG kX0_enterGate
theorem kL_join : (Cond.codeWith yL_join cL_join 6 (some .int) [(0, 12, 15, 19), (0, 12, 19, 13)]) ∈ wsG := wGi 267 rfl rfl
theorem aL_join : ∀ w ∈ wsL_join, w ∈ wsG := cG kL_join
theorem kX0_join : (Cond.code yX0_join cX0_join 4 (some .int)) ∈ wsG := wGi 271 rfl rfl
theorem aX0_join : ∀ w ∈ wsX0_join, w ∈ wsG := cG kX0_join
theorem kX0_orOf : (Cond.code yX0_orOf cX0_orOf 3 (some .int)) ∈ wsG := wGi 275 rfl rfl
theorem aX0_orOf : ∀ w ∈ wsX0_orOf, w ∈ wsG := cG kX0_orOf
theorem kX0_xorOf : (Cond.code yX0_xorOf cX0_xorOf 3 (some .int)) ∈ wsG := wGi 279 rfl rfl
theorem aX0_xorOf : ∀ w ∈ wsX0_xorOf, w ∈ wsG := cG kX0_xorOf
theorem kL_three : (Cond.codeWith yL_three cL_three 7 (some .int) [(0, 14, 17, 19), (0, 14, 21, 13)]) ∈ wsG := wGi 283 rfl rfl
theorem aL_three : ∀ w ∈ wsL_three, w ∈ wsG := cG kL_three
theorem kX0_three : (Cond.code yX0_three cX0_three 7 (some .int)) ∈ wsG := wGi 287 rfl rfl
theorem aX0_three : ∀ w ∈ wsX0_three, w ∈ wsG := cG kX0_three
theorem kX0_ifOf : (Cond.code yX0_ifOf cX0_ifOf 4 (some .int)) ∈ wsG := wGi 291 rfl rfl
theorem aX0_ifOf : ∀ w ∈ wsX0_ifOf, w ∈ wsG := cG kX0_ifOf
theorem kL_set : (Cond.codeWith yL_set cL_set 5 (some .int) [(0, 17, 20, 19)]) ∈ wsG := wGi 295 rfl rfl
theorem aL_set : ∀ w ∈ wsL_set, w ∈ wsG := cG kL_set
theorem kX0_set : (Cond.code yX0_set cX0_set 4 (some .boolean)) ∈ wsG := wGi 299 rfl rfl
theorem aX0_set : ∀ w ∈ wsX0_set, w ∈ wsG := cG kX0_set
theorem kX0_needInput : (Cond.code yX0_needInput cX0_needInput 2 none) ∈ wsG := wGi 303 rfl rfl
theorem aX0_needInput : ∀ w ∈ wsX0_needInput, w ∈ wsG := cG kX0_needInput
theorem kX0_needNode : (Cond.code yX0_needNode cX0_needNode 2 none) ∈ wsG := wGi 307 rfl rfl
theorem aX0_needNode : ∀ w ∈ wsX0_needNode, w ∈ wsG := cG kX0_needNode
theorem kX0_kindOf : (Cond.code yX0_kindOf cX0_kindOf 2 (some .int)) ∈ wsG := wGi 312 rfl rfl
theorem aX0_kindOf : ∀ w ∈ wsX0_kindOf, w ∈ wsG := cG kX0_kindOf
theorem kL_value : (Cond.codeWith yL_value cL_value 4 (some .int) [(0, 16, 19, 19)]) ∈ wsG := wGi 316 rfl rfl
theorem aL_value : ∀ w ∈ wsL_value, w ∈ wsG := cG kL_value
theorem kX0_value : (Cond.code yX0_value cX0_value 2 (some .boolean)) ∈ wsG := wGi 320 rfl rfl
theorem aX0_value : ∀ w ∈ wsX0_value, w ∈ wsG := cG kX0_value
theorem kX0_settle : (Cond.code yX0_settle cX0_settle 3 none) ∈ wsG := wGi 324 rfl rfl
theorem aX0_settle : ∀ w ∈ wsX0_settle, w ∈ wsG := cG kX0_settle
theorem kX0_valueNow : (Cond.code yX0_valueNow cX0_valueNow 2 (some .int)) ∈ wsG := wGi 328 rfl rfl
theorem aX0_valueNow : ∀ w ∈ wsX0_valueNow, w ∈ wsG := cG kX0_valueNow
theorem kL_node : (Cond.codeWith yL_node cL_node 5 (some .int) [(0, 10, 13, 19)]) ∈ wsG := wGi 331 rfl rfl
theorem aL_node : ∀ w ∈ wsL_node, w ∈ wsG := cG kL_node
theorem kX0_node : (Cond.code yX0_node cX0_node 3 (some .int)) ∈ wsG := wGi 335 rfl rfl
theorem aX0_node : ∀ w ∈ wsX0_node, w ∈ wsG := cG kX0_node
theorem kL_cone : (Cond.codeWith yL_cone cL_cone 4 (some .int) [(0, 9, 12, 19)]) ∈ wsG := wGi 339 rfl rfl
theorem aL_cone : ∀ w ∈ wsL_cone, w ∈ wsG := cG kL_cone
theorem kX0_cone : (Cond.code yX0_cone cX0_cone 5 (some .int)) ∈ wsG := wGi 343 rfl rfl
theorem aX0_cone : ∀ w ∈ wsX0_cone, w ∈ wsG := cG kX0_cone
theorem kX0_markUnder : (Cond.code yX0_markUnder cX0_markUnder 3 none) ∈ wsG := wGi 347 rfl rfl
theorem aX0_markUnder : ∀ w ∈ wsX0_markUnder, w ∈ wsG := cG kX0_markUnder
theorem kL_below : (Cond.codeWith yL_below cL_below 5 (some .int) [(0, 17, 20, 19)]) ∈ wsG := wGi 350 rfl rfl
theorem aL_below : ∀ w ∈ wsL_below, w ∈ wsG := cG kL_below
theorem kX0_below : (Cond.code yX0_below cX0_below 4 (some .boolean)) ∈ wsG := wGi 354 rfl rfl
theorem aX0_below : ∀ w ∈ wsX0_below, w ∈ wsG := cG kX0_below
theorem kL_depth : (Cond.codeWith yL_depth cL_depth 4 (some .int) [(0, 9, 12, 19)]) ∈ wsG := wGi 357 rfl rfl
theorem aL_depth : ∀ w ∈ wsL_depth, w ∈ wsG := cG kL_depth
theorem kX0_depth : (Cond.code yX0_depth cX0_depth 2 (some .int)) ∈ wsG := wGi 361 rfl rfl
theorem aX0_depth : ∀ w ∈ wsX0_depth, w ∈ wsG := cG kX0_depth
theorem kX1_init : (Cond.code yX1_init cX1_init 1 none) ∈ wsG := wGi 366 rfl rfl
theorem aX1_init : ∀ w ∈ wsX1_init, w ∈ wsG := cG kX1_init
theorem kX1_thrown : (Cond.code yX1_thrown cX1_thrown 1 (some .int)) ∈ wsG := wGi 397 rfl rfl
theorem aX1_thrown : ∀ w ∈ wsX1_thrown, w ∈ wsG := cG kX1_thrown
theorem kX1_input : (Cond.code yX1_input cX1_input 2 (some .int)) ∈ wsG := wGi 401 rfl rfl
theorem aX1_input : ∀ w ∈ wsX1_input, w ∈ wsG := cG kX1_input
theorem kX1_add : (Cond.code yX1_add cX1_add 4 (some .int)) ∈ wsG := wGi 405 rfl rfl
theorem aX1_add : ∀ w ∈ wsX1_add, w ∈ wsG := cG kX1_add
theorem kX1_and : (Cond.code yX1_and cX1_and 4 (some .int)) ∈ wsG := wGi 409 rfl rfl
theorem aX1_and : ∀ w ∈ wsX1_and, w ∈ wsG := cG kX1_and
theorem kX1_isLiteral : (Cond.code yX1_isLiteral cX1_isLiteral 2 (some .boolean)) ∈ wsG := wGi 413 rfl rfl
theorem aX1_isLiteral : ∀ w ∈ wsX1_isLiteral, w ∈ wsG := cG kX1_isLiteral
theorem kX1_make : (Cond.code yX1_make cX1_make 11 (some .int)) ∈ wsG := wGi 417 rfl rfl
theorem aX1_make : ∀ w ∈ wsX1_make, w ∈ wsG := cG kX1_make
theorem kX1_isGate : (Cond.code yX1_isGate cX1_isGate 3 (some .boolean)) ∈ wsG := wGi 421 rfl rfl
theorem aX1_isGate : ∀ w ∈ wsX1_isGate, w ∈ wsG := cG kX1_isGate
theorem kX1_has : (Cond.code yX1_has cX1_has 3 (some .boolean)) ∈ wsG := wGi 425 rfl rfl
theorem aX1_has : ∀ w ∈ wsX1_has, w ∈ wsG := cG kX1_has
theorem kX1_beside : (Cond.code yX1_beside cX1_beside 3 (some .int)) ∈ wsG := wGi 429 rfl rfl
theorem aX1_beside : ∀ w ∈ wsX1_beside, w ∈ wsG := cG kX1_beside
theorem kX1_rule : (Cond.code yX1_rule cX1_rule 5 (some .int)) ∈ wsG := wGi 433 rfl rfl
theorem aX1_rule : ∀ w ∈ wsX1_rule, w ∈ wsG := cG kX1_rule
theorem kX1_gate : (Cond.code yX1_gate cX1_gate 6 (some .int)) ∈ wsG := wGi 437 rfl rfl
theorem aX1_gate : ∀ w ∈ wsX1_gate, w ∈ wsG := cG kX1_gate
theorem kX1_join : (Cond.code yX1_join cX1_join 5 (some .int)) ∈ wsG := wGi 441 rfl rfl
theorem aX1_join : ∀ w ∈ wsX1_join, w ∈ wsG := cG kX1_join
theorem kX1_or : (Cond.code yX1_or cX1_or 3 (some .int)) ∈ wsG := wGi 445 rfl rfl
theorem aX1_or : ∀ w ∈ wsX1_or, w ∈ wsG := cG kX1_or
theorem kX1_xor : (Cond.code yX1_xor cX1_xor 5 (some .int)) ∈ wsG := wGi 449 rfl rfl
theorem aX1_xor : ∀ w ∈ wsX1_xor, w ∈ wsG := cG kX1_xor
theorem kX1_three : (Cond.code yX1_three cX1_three 8 (some .int)) ∈ wsG := wGi 453 rfl rfl
theorem aX1_three : ∀ w ∈ wsX1_three, w ∈ wsG := cG kX1_three
theorem kX1_set : (Cond.code yX1_set cX1_set 4 (some .boolean)) ∈ wsG := wGi 457 rfl rfl
theorem aX1_set : ∀ w ∈ wsX1_set, w ∈ wsG := cG kX1_set
theorem kX1_isInput : (Cond.code yX1_isInput cX1_isInput 2 (some .boolean)) ∈ wsG := wGi 461 rfl rfl
theorem aX1_isInput : ∀ w ∈ wsX1_isInput, w ∈ wsG := cG kX1_isInput
theorem kX1_value : (Cond.code yX1_value cX1_value 3 (some .boolean)) ∈ wsG := wGi 465 rfl rfl
theorem aX1_value : ∀ w ∈ wsX1_value, w ∈ wsG := cG kX1_value
theorem kX1_is : (Cond.code yX1_is cX1_is 2 (some .boolean)) ∈ wsG := wGi 469 rfl rfl
theorem aX1_is : ∀ w ∈ wsX1_is, w ∈ wsG := cG kX1_is
theorem kX1_node : (Cond.code yX1_node cX1_node 5 (some .int)) ∈ wsG := wGi 473 rfl rfl
theorem aX1_node : ∀ w ∈ wsX1_node, w ∈ wsG := cG kX1_node
theorem kX1_cone : (Cond.code yX1_cone cX1_cone 2 (some .int)) ∈ wsG := wGi 477 rfl rfl
theorem aX1_cone : ∀ w ∈ wsX1_cone, w ∈ wsG := cG kX1_cone
theorem kX1_markBelow : (Cond.code yX1_markBelow cX1_markBelow 4 (some .int)) ∈ wsG := wGi 481 rfl rfl
theorem aX1_markBelow : ∀ w ∈ wsX1_markBelow, w ∈ wsG := cG kX1_markBelow
theorem kX1_below : (Cond.code yX1_below cX1_below 4 (some .boolean)) ∈ wsG := wGi 485 rfl rfl
theorem aX1_below : ∀ w ∈ wsX1_below, w ∈ wsG := cG kX1_below
theorem kX1_depth : (Cond.code yX1_depth cX1_depth 5 (some .int)) ∈ wsG := wGi 489 rfl rfl
theorem aX1_depth : ∀ w ∈ wsX1_depth, w ∈ wsG := cG kX1_depth
theorem kX1_nodes : (Cond.code yX1_nodes cX1_nodes 1 (some .int)) ∈ wsG := wGi 493 rfl rfl
theorem aX1_nodes : ∀ w ∈ wsX1_nodes, w ∈ wsG := cG kX1_nodes
theorem kX1_inputs : (Cond.code yX1_inputs cX1_inputs 1 (some .int)) ∈ wsG := wGi 497 rfl rfl
theorem aX1_inputs : ∀ w ∈ wsX1_inputs, w ∈ wsG := cG kX1_inputs
theorem wm_104 : (Cond.methodLink RX0 44 yX0_newNode) ∈ wsG := wGi 104 rfl rfl
theorem wm_35 : (Cond.initialized RX0) ∈ wsG := wGi 35 rfl rfl
theorem wm_106 : (Cond.instanceMethod yX0_newNode) ∈ wsG := wGi 106 rfl rfl
theorem wm_0 : (Cond.selects RX0 yX0_newNode yX0_newNode) ∈ wsG := wGi 0 rfl rfl
theorem wm_203 : (Cond.methodLink RX0 48 yX0_needLiteral) ∈ wsG := wGi 203 rfl rfl
theorem wm_205 : (Cond.instanceMethod yX0_needLiteral) ∈ wsG := wGi 205 rfl rfl
theorem wm_3 : (Cond.selects RX0 yX0_needLiteral yX0_needLiteral) ∈ wsG := wGi 3 rfl rfl
theorem wm_223 : (Cond.methodLink RX0 52 yX0_andOf) ∈ wsG := wGi 223 rfl rfl
theorem wm_225 : (Cond.instanceMethod yX0_andOf) ∈ wsG := wGi 225 rfl rfl
theorem wm_4 : (Cond.selects RX0 yX0_andOf yX0_andOf) ∈ wsG := wGi 4 rfl rfl
theorem wm_272 : (Cond.methodLink RX0 55 yX0_orOf) ∈ wsG := wGi 272 rfl rfl
theorem wm_274 : (Cond.instanceMethod yX0_orOf) ∈ wsG := wGi 274 rfl rfl
theorem wm_12 : (Cond.selects RX0 yX0_orOf yX0_orOf) ∈ wsG := wGi 12 rfl rfl
theorem wm_276 : (Cond.methodLink RX0 58 yX0_xorOf) ∈ wsG := wGi 276 rfl rfl
theorem wm_278 : (Cond.instanceMethod yX0_xorOf) ∈ wsG := wGi 278 rfl rfl
theorem wm_13 : (Cond.selects RX0 yX0_xorOf yX0_xorOf) ∈ wsG := wGi 13 rfl rfl
theorem wm_288 : (Cond.methodLink RX0 68 yX0_ifOf) ∈ wsG := wGi 288 rfl rfl
theorem wm_290 : (Cond.instanceMethod yX0_ifOf) ∈ wsG := wGi 290 rfl rfl
theorem wm_14 : (Cond.selects RX0 yX0_ifOf yX0_ifOf) ∈ wsG := wGi 14 rfl rfl
theorem wm_300 : (Cond.methodLink RX0 74 yX0_needInput) ∈ wsG := wGi 300 rfl rfl
theorem wm_302 : (Cond.instanceMethod yX0_needInput) ∈ wsG := wGi 302 rfl rfl
theorem wm_15 : (Cond.selects RX0 yX0_needInput yX0_needInput) ∈ wsG := wGi 15 rfl rfl
theorem wm_321 : (Cond.methodLink RX0 82 yX0_settle) ∈ wsG := wGi 321 rfl rfl
theorem wm_323 : (Cond.instanceMethod yX0_settle) ∈ wsG := wGi 323 rfl rfl
theorem wm_18 : (Cond.selects RX0 yX0_settle yX0_settle) ∈ wsG := wGi 18 rfl rfl
theorem wm_325 : (Cond.methodLink RX0 85 yX0_valueNow) ∈ wsG := wGi 325 rfl rfl
theorem wm_327 : (Cond.instanceMethod yX0_valueNow) ∈ wsG := wGi 327 rfl rfl
theorem wm_19 : (Cond.selects RX0 yX0_valueNow yX0_valueNow) ∈ wsG := wGi 19 rfl rfl
theorem wm_304 : (Cond.methodLink RX0 89 yX0_needNode) ∈ wsG := wGi 304 rfl rfl
theorem wm_306 : (Cond.instanceMethod yX0_needNode) ∈ wsG := wGi 306 rfl rfl
theorem wm_16 : (Cond.selects RX0 yX0_needNode yX0_needNode) ∈ wsG := wGi 16 rfl rfl
theorem wm_309 : (Cond.methodLink RX0 92 yX0_kindOf) ∈ wsG := wGi 309 rfl rfl
theorem wm_311 : (Cond.instanceMethod yX0_kindOf) ∈ wsG := wGi 311 rfl rfl
theorem wm_17 : (Cond.selects RX0 yX0_kindOf yX0_kindOf) ∈ wsG := wGi 17 rfl rfl
theorem wm_344 : (Cond.methodLink RX0 97 yX0_markUnder) ∈ wsG := wGi 344 rfl rfl
theorem wm_346 : (Cond.instanceMethod yX0_markUnder) ∈ wsG := wGi 346 rfl rfl
theorem wm_20 : (Cond.selects RX0 yX0_markUnder yX0_markUnder) ∈ wsG := wGi 20 rfl rfl
theorem wm_238 : (Cond.methodLink RX0 100 yX0_isGate) ∈ wsG := wGi 238 rfl rfl
theorem wm_240 : (Cond.instanceMethod yX0_isGate) ∈ wsG := wGi 240 rfl rfl
theorem wm_6 : (Cond.selects RX0 yX0_isGate yX0_isGate) ∈ wsG := wGi 6 rfl rfl
theorem wm_235 : (Cond.methodLink RX0 110 yX0_not) ∈ wsG := wGi 235 rfl rfl
theorem wm_236 : (Cond.static yX0_not) ∈ wsG := wGi 236 rfl rfl
theorem wm_231 : (Cond.methodLink RX0 116 yX0_knownAnd) ∈ wsG := wGi 231 rfl rfl
theorem wm_233 : (Cond.instanceMethod yX0_knownAnd) ∈ wsG := wGi 233 rfl rfl
theorem wm_5 : (Cond.selects RX0 yX0_knownAnd yX0_knownAnd) ∈ wsG := wGi 5 rfl rfl
theorem wm_253 : (Cond.methodLink RX0 119 yX0_restOf) ∈ wsG := wGi 253 rfl rfl
theorem wm_255 : (Cond.instanceMethod yX0_restOf) ∈ wsG := wGi 255 rfl rfl
theorem wm_9 : (Cond.selects RX0 yX0_restOf yX0_restOf) ∈ wsG := wGi 9 rfl rfl
theorem wm_257 : (Cond.methodLink RX0 122 yX0_gateOf) ∈ wsG := wGi 257 rfl rfl
theorem wm_259 : (Cond.instanceMethod yX0_gateOf) ∈ wsG := wGi 259 rfl rfl
theorem wm_10 : (Cond.selects RX0 yX0_gateOf yX0_gateOf) ∈ wsG := wGi 10 rfl rfl
theorem wm_242 : (Cond.methodLink RX0 125 yX0_isNegated) ∈ wsG := wGi 242 rfl rfl
theorem wm_243 : (Cond.static yX0_isNegated) ∈ wsG := wGi 243 rfl rfl
theorem wm_245 : (Cond.methodLink RX0 128 yX0_hasLiteral) ∈ wsG := wGi 245 rfl rfl
theorem wm_247 : (Cond.instanceMethod yX0_hasLiteral) ∈ wsG := wGi 247 rfl rfl
theorem wm_7 : (Cond.selects RX0 yX0_hasLiteral yX0_hasLiteral) ∈ wsG := wGi 7 rfl rfl
theorem wm_249 : (Cond.methodLink RX0 132 yX0_isGateAgainst) ∈ wsG := wGi 249 rfl rfl
theorem wm_251 : (Cond.instanceMethod yX0_isGateAgainst) ∈ wsG := wGi 251 rfl rfl
theorem wm_8 : (Cond.selects RX0 yX0_isGateAgainst yX0_isGateAgainst) ∈ wsG := wGi 8 rfl rfl
theorem wm_261 : (Cond.methodLink RX0 135 yX0_enterGate) ∈ wsG := wGi 261 rfl rfl
theorem wm_263 : (Cond.instanceMethod yX0_enterGate) ∈ wsG := wGi 263 rfl rfl
theorem wm_11 : (Cond.selects RX0 yX0_enterGate yX0_enterGate) ∈ wsG := wGi 11 rfl rfl
theorem wm_175 : (Cond.methodLink RX0 144 yX0_growRows) ∈ wsG := wGi 175 rfl rfl
theorem wm_177 : (Cond.instanceMethod yX0_growRows) ∈ wsG := wGi 177 rfl rfl
theorem wm_2 : (Cond.selects RX0 yX0_growRows yX0_growRows) ∈ wsG := wGi 2 rfl rfl
theorem wm_179 : (Cond.methodLink RX0 147 yJ7_copyOf) ∈ wsG := wGi 179 rfl rfl
theorem wm_41 : (Cond.initialized RJ7) ∈ wsG := wGi 41 rfl rfl
theorem wm_180 : (Cond.static yJ7_copyOf) ∈ wsG := wGi 180 rfl rfl
theorem wm_402 : (Cond.methodLink RX1 34 yX1_add) ∈ wsG := wGi 402 rfl rfl
theorem wm_36 : (Cond.initialized RX1) ∈ wsG := wGi 36 rfl rfl
theorem wm_404 : (Cond.instanceMethod yX1_add) ∈ wsG := wGi 404 rfl rfl
theorem wm_21 : (Cond.selects RX1 yX1_add yX1_add) ∈ wsG := wGi 21 rfl rfl
theorem wm_418 : (Cond.methodLink RX1 41 yX1_isGate) ∈ wsG := wGi 418 rfl rfl
theorem wm_420 : (Cond.instanceMethod yX1_isGate) ∈ wsG := wGi 420 rfl rfl
theorem wm_24 : (Cond.selects RX1 yX1_isGate yX1_isGate) ∈ wsG := wGi 24 rfl rfl
theorem wm_422 : (Cond.methodLink RX1 45 yX1_has) ∈ wsG := wGi 422 rfl rfl
theorem wm_424 : (Cond.instanceMethod yX1_has) ∈ wsG := wGi 424 rfl rfl
theorem wm_25 : (Cond.selects RX1 yX1_has yX1_has) ∈ wsG := wGi 25 rfl rfl
theorem wm_426 : (Cond.methodLink RX1 49 yX1_beside) ∈ wsG := wGi 426 rfl rfl
theorem wm_428 : (Cond.instanceMethod yX1_beside) ∈ wsG := wGi 428 rfl rfl
theorem wm_26 : (Cond.selects RX1 yX1_beside yX1_beside) ∈ wsG := wGi 26 rfl rfl
theorem wm_430 : (Cond.methodLink RX1 53 yX1_rule) ∈ wsG := wGi 430 rfl rfl
theorem wm_432 : (Cond.instanceMethod yX1_rule) ∈ wsG := wGi 432 rfl rfl
theorem wm_27 : (Cond.selects RX1 yX1_rule yX1_rule) ∈ wsG := wGi 27 rfl rfl
theorem wm_434 : (Cond.methodLink RX1 56 yX1_gate) ∈ wsG := wGi 434 rfl rfl
theorem wm_436 : (Cond.instanceMethod yX1_gate) ∈ wsG := wGi 436 rfl rfl
theorem wm_28 : (Cond.selects RX1 yX1_gate yX1_gate) ∈ wsG := wGi 28 rfl rfl
theorem wm_414 : (Cond.methodLink RX1 59 yX1_make) ∈ wsG := wGi 414 rfl rfl
theorem wm_416 : (Cond.instanceMethod yX1_make) ∈ wsG := wGi 416 rfl rfl
theorem wm_23 : (Cond.selects RX1 yX1_make yX1_make) ∈ wsG := wGi 23 rfl rfl
theorem wm_442 : (Cond.methodLink RX1 62 yX1_or) ∈ wsG := wGi 442 rfl rfl
theorem wm_444 : (Cond.instanceMethod yX1_or) ∈ wsG := wGi 444 rfl rfl
theorem wm_29 : (Cond.selects RX1 yX1_or yX1_or) ∈ wsG := wGi 29 rfl rfl
theorem wm_410 : (Cond.methodLink RX1 65 yX1_isLiteral) ∈ wsG := wGi 410 rfl rfl
theorem wm_412 : (Cond.instanceMethod yX1_isLiteral) ∈ wsG := wGi 412 rfl rfl
theorem wm_22 : (Cond.selects RX1 yX1_isLiteral yX1_isLiteral) ∈ wsG := wGi 22 rfl rfl
theorem wm_446 : (Cond.methodLink RX1 69 yX1_xor) ∈ wsG := wGi 446 rfl rfl
theorem wm_448 : (Cond.instanceMethod yX1_xor) ∈ wsG := wGi 448 rfl rfl
theorem wm_30 : (Cond.selects RX1 yX1_xor yX1_xor) ∈ wsG := wGi 30 rfl rfl
theorem wm_458 : (Cond.methodLink RX1 72 yX1_isInput) ∈ wsG := wGi 458 rfl rfl
theorem wm_460 : (Cond.instanceMethod yX1_isInput) ∈ wsG := wGi 460 rfl rfl
theorem wm_31 : (Cond.selects RX1 yX1_isInput yX1_isInput) ∈ wsG := wGi 31 rfl rfl
theorem wm_466 : (Cond.methodLink RX1 75 yX1_is) ∈ wsG := wGi 466 rfl rfl
theorem wm_468 : (Cond.instanceMethod yX1_is) ∈ wsG := wGi 468 rfl rfl
theorem wm_32 : (Cond.selects RX1 yX1_is yX1_is) ∈ wsG := wGi 32 rfl rfl
theorem wm_478 : (Cond.methodLink RX1 78 yX1_markBelow) ∈ wsG := wGi 478 rfl rfl
theorem wm_480 : (Cond.instanceMethod yX1_markBelow) ∈ wsG := wGi 480 rfl rfl
theorem wm_33 : (Cond.selects RX1 yX1_markBelow yX1_markBelow) ∈ wsG := wGi 33 rfl rfl
theorem wm_100 : (Cond.methodLink RL 7 yX0_input) ∈ wsG := wGi 100 rfl rfl
theorem wm_101 : (Cond.instanceMethod yX0_input) ∈ wsG := wGi 101 rfl rfl
theorem wm_102 : (Cond.selects RX0 yX0_input yX0_input) ∈ wsG := wGi 102 rfl rfl
theorem wm_199 : (Cond.methodLink RL 15 yX0_and) ∈ wsG := wGi 199 rfl rfl
theorem wm_200 : (Cond.instanceMethod yX0_and) ∈ wsG := wGi 200 rfl rfl
theorem wm_201 : (Cond.selects RX0 yX0_and yX0_and) ∈ wsG := wGi 201 rfl rfl
theorem wm_268 : (Cond.methodLink RL 21 yX0_join) ∈ wsG := wGi 268 rfl rfl
theorem wm_269 : (Cond.instanceMethod yX0_join) ∈ wsG := wGi 269 rfl rfl
theorem wm_270 : (Cond.selects RX0 yX0_join yX0_join) ∈ wsG := wGi 270 rfl rfl
theorem wm_284 : (Cond.methodLink RL 25 yX0_three) ∈ wsG := wGi 284 rfl rfl
theorem wm_285 : (Cond.instanceMethod yX0_three) ∈ wsG := wGi 285 rfl rfl
theorem wm_286 : (Cond.selects RX0 yX0_three yX0_three) ∈ wsG := wGi 286 rfl rfl
theorem wm_296 : (Cond.methodLink RL 29 yX0_set) ∈ wsG := wGi 296 rfl rfl
theorem wm_297 : (Cond.instanceMethod yX0_set) ∈ wsG := wGi 297 rfl rfl
theorem wm_298 : (Cond.selects RX0 yX0_set yX0_set) ∈ wsG := wGi 298 rfl rfl
theorem wm_317 : (Cond.methodLink RL 33 yX0_value) ∈ wsG := wGi 317 rfl rfl
theorem wm_318 : (Cond.instanceMethod yX0_value) ∈ wsG := wGi 318 rfl rfl
theorem wm_319 : (Cond.selects RX0 yX0_value yX0_value) ∈ wsG := wGi 319 rfl rfl
theorem wm_332 : (Cond.methodLink RL 37 yX0_node) ∈ wsG := wGi 332 rfl rfl
theorem wm_333 : (Cond.instanceMethod yX0_node) ∈ wsG := wGi 333 rfl rfl
theorem wm_334 : (Cond.selects RX0 yX0_node yX0_node) ∈ wsG := wGi 334 rfl rfl
theorem wm_340 : (Cond.methodLink RL 40 yX0_cone) ∈ wsG := wGi 340 rfl rfl
theorem wm_341 : (Cond.instanceMethod yX0_cone) ∈ wsG := wGi 341 rfl rfl
theorem wm_342 : (Cond.selects RX0 yX0_cone yX0_cone) ∈ wsG := wGi 342 rfl rfl
theorem wm_351 : (Cond.methodLink RL 44 yX0_below) ∈ wsG := wGi 351 rfl rfl
theorem wm_352 : (Cond.instanceMethod yX0_below) ∈ wsG := wGi 352 rfl rfl
theorem wm_353 : (Cond.selects RX0 yX0_below yX0_below) ∈ wsG := wGi 353 rfl rfl
theorem wm_358 : (Cond.methodLink RL 48 yX0_depth) ∈ wsG := wGi 358 rfl rfl
theorem wm_359 : (Cond.instanceMethod yX0_depth) ∈ wsG := wGi 359 rfl rfl
theorem wm_360 : (Cond.selects RX0 yX0_depth yX0_depth) ∈ wsG := wGi 360 rfl rfl
theorem wm_47 : (Cond.methodLink RL 51 yX0_init) ∈ wsG := wGi 47 rfl rfl
theorem wm_48 : (Cond.instanceMethod yX0_init) ∈ wsG := wGi 48 rfl rfl
theorem wm_364 : (Cond.methodLink RL 54 yX1_init) ∈ wsG := wGi 364 rfl rfl
theorem wm_365 : (Cond.instanceMethod yX1_init) ∈ wsG := wGi 365 rfl rfl
theorem wm_96 : (Cond.methodLink RL 55 yL_input) ∈ wsG := wGi 96 rfl rfl
theorem wm_34 : (Cond.initialized RL) ∈ wsG := wGi 34 rfl rfl
theorem wm_97 : (Cond.static yL_input) ∈ wsG := wGi 97 rfl rfl
theorem wm_398 : (Cond.methodLink RL 60 yX1_input) ∈ wsG := wGi 398 rfl rfl
theorem wm_399 : (Cond.instanceMethod yX1_input) ∈ wsG := wGi 399 rfl rfl
theorem wm_400 : (Cond.selects RX1 yX1_input yX1_input) ∈ wsG := wGi 400 rfl rfl
theorem wm_394 : (Cond.methodLink RL 61 yX1_thrown) ∈ wsG := wGi 394 rfl rfl
theorem wm_395 : (Cond.instanceMethod yX1_thrown) ∈ wsG := wGi 395 rfl rfl
theorem wm_396 : (Cond.selects RX1 yX1_thrown yX1_thrown) ∈ wsG := wGi 396 rfl rfl
theorem wm_195 : (Cond.methodLink RL 64 yL_and) ∈ wsG := wGi 195 rfl rfl
theorem wm_196 : (Cond.static yL_and) ∈ wsG := wGi 196 rfl rfl
theorem wm_406 : (Cond.methodLink RL 67 yX1_and) ∈ wsG := wGi 406 rfl rfl
theorem wm_407 : (Cond.instanceMethod yX1_and) ∈ wsG := wGi 407 rfl rfl
theorem wm_408 : (Cond.selects RX1 yX1_and yX1_and) ∈ wsG := wGi 408 rfl rfl
theorem wm_265 : (Cond.methodLink RL 68 yL_join) ∈ wsG := wGi 265 rfl rfl
theorem wm_266 : (Cond.static yL_join) ∈ wsG := wGi 266 rfl rfl
theorem wm_438 : (Cond.methodLink RL 71 yX1_join) ∈ wsG := wGi 438 rfl rfl
theorem wm_439 : (Cond.instanceMethod yX1_join) ∈ wsG := wGi 439 rfl rfl
theorem wm_440 : (Cond.selects RX1 yX1_join yX1_join) ∈ wsG := wGi 440 rfl rfl
theorem wm_281 : (Cond.methodLink RL 72 yL_three) ∈ wsG := wGi 281 rfl rfl
theorem wm_282 : (Cond.static yL_three) ∈ wsG := wGi 282 rfl rfl
theorem wm_450 : (Cond.methodLink RL 75 yX1_three) ∈ wsG := wGi 450 rfl rfl
theorem wm_451 : (Cond.instanceMethod yX1_three) ∈ wsG := wGi 451 rfl rfl
theorem wm_452 : (Cond.selects RX1 yX1_three yX1_three) ∈ wsG := wGi 452 rfl rfl
theorem wm_293 : (Cond.methodLink RL 76 yL_set) ∈ wsG := wGi 293 rfl rfl
theorem wm_294 : (Cond.static yL_set) ∈ wsG := wGi 294 rfl rfl
theorem wm_454 : (Cond.methodLink RL 79 yX1_set) ∈ wsG := wGi 454 rfl rfl
theorem wm_455 : (Cond.instanceMethod yX1_set) ∈ wsG := wGi 455 rfl rfl
theorem wm_456 : (Cond.selects RX1 yX1_set yX1_set) ∈ wsG := wGi 456 rfl rfl
theorem wm_314 : (Cond.methodLink RL 80 yL_value) ∈ wsG := wGi 314 rfl rfl
theorem wm_315 : (Cond.static yL_value) ∈ wsG := wGi 315 rfl rfl
theorem wm_462 : (Cond.methodLink RL 83 yX1_value) ∈ wsG := wGi 462 rfl rfl
theorem wm_463 : (Cond.instanceMethod yX1_value) ∈ wsG := wGi 463 rfl rfl
theorem wm_464 : (Cond.selects RX1 yX1_value yX1_value) ∈ wsG := wGi 464 rfl rfl
theorem wm_329 : (Cond.methodLink RL 84 yL_node) ∈ wsG := wGi 329 rfl rfl
theorem wm_330 : (Cond.static yL_node) ∈ wsG := wGi 330 rfl rfl
theorem wm_470 : (Cond.methodLink RL 86 yX1_node) ∈ wsG := wGi 470 rfl rfl
theorem wm_471 : (Cond.instanceMethod yX1_node) ∈ wsG := wGi 471 rfl rfl
theorem wm_472 : (Cond.selects RX1 yX1_node yX1_node) ∈ wsG := wGi 472 rfl rfl
theorem wm_337 : (Cond.methodLink RL 87 yL_cone) ∈ wsG := wGi 337 rfl rfl
theorem wm_338 : (Cond.static yL_cone) ∈ wsG := wGi 338 rfl rfl
theorem wm_474 : (Cond.methodLink RL 89 yX1_cone) ∈ wsG := wGi 474 rfl rfl
theorem wm_475 : (Cond.instanceMethod yX1_cone) ∈ wsG := wGi 475 rfl rfl
theorem wm_476 : (Cond.selects RX1 yX1_cone yX1_cone) ∈ wsG := wGi 476 rfl rfl
theorem wm_348 : (Cond.methodLink RL 90 yL_below) ∈ wsG := wGi 348 rfl rfl
theorem wm_349 : (Cond.static yL_below) ∈ wsG := wGi 349 rfl rfl
theorem wm_482 : (Cond.methodLink RL 92 yX1_below) ∈ wsG := wGi 482 rfl rfl
theorem wm_483 : (Cond.instanceMethod yX1_below) ∈ wsG := wGi 483 rfl rfl
theorem wm_484 : (Cond.selects RX1 yX1_below yX1_below) ∈ wsG := wGi 484 rfl rfl
theorem wm_355 : (Cond.methodLink RL 93 yL_depth) ∈ wsG := wGi 355 rfl rfl
theorem wm_356 : (Cond.static yL_depth) ∈ wsG := wGi 356 rfl rfl
theorem wm_486 : (Cond.methodLink RL 95 yX1_depth) ∈ wsG := wGi 486 rfl rfl
theorem wm_487 : (Cond.instanceMethod yX1_depth) ∈ wsG := wGi 487 rfl rfl
theorem wm_488 : (Cond.selects RX1 yX1_depth yX1_depth) ∈ wsG := wGi 488 rfl rfl
theorem wm_88 : (Cond.methodLink RL 96 yX0_nodes) ∈ wsG := wGi 88 rfl rfl
theorem wm_89 : (Cond.instanceMethod yX0_nodes) ∈ wsG := wGi 89 rfl rfl
theorem wm_90 : (Cond.selects RX0 yX0_nodes yX0_nodes) ∈ wsG := wGi 90 rfl rfl
theorem wm_490 : (Cond.methodLink RL 99 yX1_nodes) ∈ wsG := wGi 490 rfl rfl
theorem wm_491 : (Cond.instanceMethod yX1_nodes) ∈ wsG := wGi 491 rfl rfl
theorem wm_492 : (Cond.selects RX1 yX1_nodes yX1_nodes) ∈ wsG := wGi 492 rfl rfl
theorem wm_92 : (Cond.methodLink RL 100 yX0_inputs) ∈ wsG := wGi 92 rfl rfl
theorem wm_93 : (Cond.instanceMethod yX0_inputs) ∈ wsG := wGi 93 rfl rfl
theorem wm_94 : (Cond.selects RX0 yX0_inputs yX0_inputs) ∈ wsG := wGi 94 rfl rfl
theorem wm_494 : (Cond.methodLink RL 103 yX1_inputs) ∈ wsG := wGi 494 rfl rfl
theorem wm_495 : (Cond.instanceMethod yX1_inputs) ∈ wsG := wGi 495 rfl rfl
theorem wm_496 : (Cond.selects RX1 yX1_inputs yX1_inputs) ∈ wsG := wGi 496 rfl rfl
theorem wm_37 : (Cond.initialized "java/lang/Throwable") ∈ wsG := wGi 37 rfl rfl
theorem wm_38 : (Cond.initialized "java/lang/Exception") ∈ wsG := wGi 38 rfl rfl
theorem wm_39 : (Cond.initialized "java/lang/RuntimeException") ∈ wsG := wGi 39 rfl rfl
theorem wm_40 : (Cond.initialized "java/lang/IllegalStateException") ∈ wsG := wGi 40 rfl rfl
theorem wm_42 : (Cond.initialized "java/lang/Math") ∈ wsG := wGi 42 rfl rfl
theorem wm_43 : (Cond.initialized "java/lang/System") ∈ wsG := wGi 43 rfl rfl
theorem wm_44 : (Cond.initialized "java/lang/IllegalArgumentException") ∈ wsG := wGi 44 rfl rfl
theorem wm_45 : (Cond.classLink RL 8 RX0) ∈ wsG := wGi 45 rfl rfl
theorem wm_46 : (Cond.instantiable RX0 11) ∈ wsG := wGi 46 rfl rfl
theorem wm_50 : (Cond.methodLink RX0 1 objectInit) ∈ wsG := wGi 50 rfl rfl
theorem wm_51 : (Cond.instanceMethod objectInit) ∈ wsG := wGi 51 rfl rfl
theorem wm_52 : (Cond.code objectInit ⟨#[0xb1]⟩ 1 none) ∈ wsG := wGi 52 rfl rfl
theorem wm_53 : (Cond.fieldLink RX0 9 "GateBench" "firsts" "[I") ∈ wsG := wGi 53 rfl rfl
theorem wm_54 : (Cond.fieldLink RX0 13 "GateBench" "seconds" "[I") ∈ wsG := wGi 54 rfl rfl
theorem wm_55 : (Cond.fieldLink RX0 16 "GateBench" "users" "[I") ∈ wsG := wGi 55 rfl rfl
theorem wm_56 : (Cond.fieldLink RX0 19 "GateBench" "depths" "[I") ∈ wsG := wGi 56 rfl rfl
theorem wm_57 : (Cond.fieldLink RX0 22 "GateBench" "values" "[I") ∈ wsG := wGi 57 rfl rfl
theorem wm_58 : (Cond.fieldLink RX0 25 "GateBench" "marks" "[I") ∈ wsG := wGi 58 rfl rfl
theorem wm_59 : (Cond.fieldLink RX0 28 "GateBench" "newestOver" "[I") ∈ wsG := wGi 59 rfl rfl
theorem wm_60 : (Cond.fieldLink RX0 31 "GateBench" "nextOlder" "[I") ∈ wsG := wGi 60 rfl rfl
theorem wm_61 : (Cond.fieldLink RX0 34 "GateBench" "nodeCount" "I") ∈ wsG := wGi 61 rfl rfl
theorem wm_62 : (Cond.fieldLink RX0 38 "GateBench" "inputCount" "I") ∈ wsG := wGi 62 rfl rfl
theorem wm_63 : (Cond.fieldLink RX0 41 "GateBench" "settledTo" "I") ∈ wsG := wGi 63 rfl rfl
theorem wm_87 : (Cond.arrayClass .int) ∈ wsG := wGi 87 rfl rfl
theorem wm_99 : (Cond.classLink RL 13 "java/lang/IllegalStateException") ∈ wsG := wGi 99 rfl rfl
theorem wm_108 : (Cond.classLink RX0 139 "java/lang/IllegalStateException") ∈ wsG := wGi 108 rfl rfl
theorem wm_174 : (Cond.arrayClass .byte) ∈ wsG := wGi 174 rfl rfl
theorem wm_188 : (Cond.classLink RJ7 317 "[I") ∈ wsG := wGi 188 rfl rfl
theorem wm_189 : (Cond.methodLink RJ7 304 Lib.Math.min.name) ∈ wsG := wGi 189 rfl rfl
theorem wm_190 : (Cond.static Lib.Math.min.name) ∈ wsG := wGi 190 rfl rfl
theorem wm_191 : (Cond.code Lib.Math.min.name Lib.Math.min.code 2 (some .int)) ∈ wsG := wGi 191 rfl rfl
theorem wm_192 : (Cond.methodLink RJ7 150 arraycopyName) ∈ wsG := wGi 192 rfl rfl
theorem wm_193 : (Cond.static arraycopyName) ∈ wsG := wGi 193 rfl rfl
theorem wm_194 : (Cond.native arraycopyName) ∈ wsG := wGi 194 rfl rfl
theorem wm_198 : (Cond.classLink RL 19 "java/lang/IllegalArgumentException") ∈ wsG := wGi 198 rfl rfl
theorem wm_207 : (Cond.classLink RX0 61 "java/lang/IllegalArgumentException") ∈ wsG := wGi 207 rfl rfl
theorem wm_227 : (Cond.methodLink RX0 77 Lib.Math.min.name) ∈ wsG := wGi 227 rfl rfl
theorem wm_228 : (Cond.methodLink RX0 113 Lib.Math.max.name) ∈ wsG := wGi 228 rfl rfl
theorem wm_229 : (Cond.static Lib.Math.max.name) ∈ wsG := wGi 229 rfl rfl
theorem wm_230 : (Cond.code Lib.Math.max.name Lib.Math.max.code 2 (some .int)) ∈ wsG := wGi 230 rfl rfl
theorem wm_362 : (Cond.classLink RL 52 RX1) ∈ wsG := wGi 362 rfl rfl
theorem wm_363 : (Cond.instantiable RX1 8) ∈ wsG := wGi 363 rfl rfl
theorem wm_367 : (Cond.methodLink RX1 1 objectInit) ∈ wsG := wGi 367 rfl rfl
theorem wm_368 : (Cond.fieldLink RX1 31 "GateBenchModel" "code" "I") ∈ wsG := wGi 368 rfl rfl
theorem wm_369 : (Cond.fieldLink RX1 7 "GateBenchModel" "count" "I") ∈ wsG := wGi 369 rfl rfl
theorem wm_370 : (Cond.fieldLink RX1 38 "GateBenchModel" "inputs" "I") ∈ wsG := wGi 370 rfl rfl
theorem wm_371 : (Cond.fieldLink RX1 13 "GateBenchModel" "kind" "[B") ∈ wsG := wGi 371 rfl rfl
theorem wm_372 : (Cond.fieldLink RX1 17 "GateBenchModel" "first" "[I") ∈ wsG := wGi 372 rfl rfl
theorem wm_373 : (Cond.fieldLink RX1 21 "GateBenchModel" "second" "[I") ∈ wsG := wGi 373 rfl rfl
theorem wm_374 : (Cond.fieldLink RX1 24 "GateBenchModel" "on" "[Z") ∈ wsG := wGi 374 rfl rfl
theorem wm_375 : (Cond.fieldLink RX1 28 "GateBenchModel" "mark" "[I") ∈ wsG := wGi 375 rfl rfl
theorem wm_393 : (Cond.arrayClass .boolean) ∈ wsG := wGi 393 rfl rfl
theorem wm_498 : (Cond.arrayClass .long) ∈ wsG := wGi 498 rfl rfl
theorem gX0_input_X0_newNode : GoodIn wsX0_input (wsV RX0 44 RX0 yX0_newNode wsX0_newNode) := gIn (fun w h => mG h) (vG wm_104 wm_106 wm_0 wm_35 aX0_newNode)
theorem gX0_and_X0_needLiteral : GoodIn wsX0_and (wsV RX0 48 RX0 yX0_needLiteral wsX0_needLiteral) := gIn (fun w h => mG h) (vG wm_203 wm_205 wm_3 wm_35 aX0_needLiteral)
theorem gX0_and_X0_andOf : GoodIn wsX0_and (wsV RX0 52 RX0 yX0_andOf wsX0_andOf) := gIn (fun w h => mG h) (vG wm_223 wm_225 wm_4 wm_35 aX0_andOf)
theorem gX0_join_X0_needLiteral : GoodIn wsX0_join (wsV RX0 48 RX0 yX0_needLiteral wsX0_needLiteral) := gIn (fun w h => mG h) (vG wm_203 wm_205 wm_3 wm_35 aX0_needLiteral)
theorem gX0_join_X0_orOf : GoodIn wsX0_join (wsV RX0 55 RX0 yX0_orOf wsX0_orOf) := gIn (fun w h => mG h) (vG wm_272 wm_274 wm_12 wm_35 aX0_orOf)
theorem gX0_join_X0_xorOf : GoodIn wsX0_join (wsV RX0 58 RX0 yX0_xorOf wsX0_xorOf) := gIn (fun w h => mG h) (vG wm_276 wm_278 wm_13 wm_35 aX0_xorOf)
theorem gX0_three_X0_needLiteral : GoodIn wsX0_three (wsV RX0 48 RX0 yX0_needLiteral wsX0_needLiteral) := gIn (fun w h => mG h) (vG wm_203 wm_205 wm_3 wm_35 aX0_needLiteral)
theorem gX0_three_X0_ifOf : GoodIn wsX0_three (wsV RX0 68 RX0 yX0_ifOf wsX0_ifOf) := gIn (fun w h => mG h) (vG wm_288 wm_290 wm_14 wm_35 aX0_ifOf)
theorem gX0_three_X0_xorOf : GoodIn wsX0_three (wsV RX0 58 RX0 yX0_xorOf wsX0_xorOf) := gIn (fun w h => mG h) (vG wm_276 wm_278 wm_13 wm_35 aX0_xorOf)
theorem gX0_three_X0_andOf : GoodIn wsX0_three (wsV RX0 52 RX0 yX0_andOf wsX0_andOf) := gIn (fun w h => mG h) (vG wm_223 wm_225 wm_4 wm_35 aX0_andOf)
theorem gX0_three_X0_orOf : GoodIn wsX0_three (wsV RX0 55 RX0 yX0_orOf wsX0_orOf) := gIn (fun w h => mG h) (vG wm_272 wm_274 wm_12 wm_35 aX0_orOf)
theorem gX0_set_X0_needInput : GoodIn wsX0_set (wsV RX0 74 RX0 yX0_needInput wsX0_needInput) := gIn (fun w h => mG h) (vG wm_300 wm_302 wm_15 wm_35 aX0_needInput)
theorem gX0_value_X0_needLiteral : GoodIn wsX0_value (wsV RX0 48 RX0 yX0_needLiteral wsX0_needLiteral) := gIn (fun w h => mG h) (vG wm_203 wm_205 wm_3 wm_35 aX0_needLiteral)
theorem gX0_value_X0_settle : GoodIn wsX0_value (wsV RX0 82 RX0 yX0_settle wsX0_settle) := gIn (fun w h => mG h) (vG wm_321 wm_323 wm_18 wm_35 aX0_settle)
theorem gX0_value_X0_valueNow : GoodIn wsX0_value (wsV RX0 85 RX0 yX0_valueNow wsX0_valueNow) := gIn (fun w h => mG h) (vG wm_325 wm_327 wm_19 wm_35 aX0_valueNow)
theorem gX0_node_X0_needNode : GoodIn wsX0_node (wsV RX0 89 RX0 yX0_needNode wsX0_needNode) := gIn (fun w h => mG h) (vG wm_304 wm_306 wm_16 wm_35 aX0_needNode)
theorem gX0_node_X0_kindOf : GoodIn wsX0_node (wsV RX0 92 RX0 yX0_kindOf wsX0_kindOf) := gIn (fun w h => mG h) (vG wm_309 wm_311 wm_17 wm_35 aX0_kindOf)
theorem gX0_cone_X0_needLiteral : GoodIn wsX0_cone (wsV RX0 48 RX0 yX0_needLiteral wsX0_needLiteral) := gIn (fun w h => mG h) (vG wm_203 wm_205 wm_3 wm_35 aX0_needLiteral)
theorem gX0_cone_X0_markUnder : GoodIn wsX0_cone (wsV RX0 97 RX0 yX0_markUnder wsX0_markUnder) := gIn (fun w h => mG h) (vG wm_344 wm_346 wm_20 wm_35 aX0_markUnder)
theorem gX0_cone_X0_isGate : GoodIn wsX0_cone (wsV RX0 100 RX0 yX0_isGate wsX0_isGate) := gIn (fun w h => mG h) (vG wm_238 wm_240 wm_6 wm_35 aX0_isGate)
theorem gX0_below_X0_needInput : GoodIn wsX0_below (wsV RX0 74 RX0 yX0_needInput wsX0_needInput) := gIn (fun w h => mG h) (vG wm_300 wm_302 wm_15 wm_35 aX0_needInput)
theorem gX0_below_X0_needLiteral : GoodIn wsX0_below (wsV RX0 48 RX0 yX0_needLiteral wsX0_needLiteral) := gIn (fun w h => mG h) (vG wm_203 wm_205 wm_3 wm_35 aX0_needLiteral)
theorem gX0_below_X0_markUnder : GoodIn wsX0_below (wsV RX0 97 RX0 yX0_markUnder wsX0_markUnder) := gIn (fun w h => mG h) (vG wm_344 wm_346 wm_20 wm_35 aX0_markUnder)
theorem gX0_depth_X0_needLiteral : GoodIn wsX0_depth (wsV RX0 48 RX0 yX0_needLiteral wsX0_needLiteral) := gIn (fun w h => mG h) (vG wm_203 wm_205 wm_3 wm_35 aX0_needLiteral)
theorem gX0_needInput_X0_needNode : GoodIn wsX0_needInput (wsV RX0 89 RX0 yX0_needNode wsX0_needNode) := gIn (fun w h => mG h) (vG wm_304 wm_306 wm_16 wm_35 aX0_needNode)
theorem gX0_needInput_X0_kindOf : GoodIn wsX0_needInput (wsV RX0 92 RX0 yX0_kindOf wsX0_kindOf) := gIn (fun w h => mG h) (vG wm_309 wm_311 wm_17 wm_35 aX0_kindOf)
theorem gX0_kindOf_X0_isGate : GoodIn wsX0_kindOf (wsV RX0 100 RX0 yX0_isGate wsX0_isGate) := gIn (fun w h => mG h) (vG wm_238 wm_240 wm_6 wm_35 aX0_isGate)
theorem gX0_orOf_X0_not : GoodIn wsX0_orOf (va_wsS RX0 110 yX0_not wsX0_not) := gIn (fun w h => mG h) (sG wm_235 wm_236 wm_35 aX0_not)
theorem gX0_orOf_X0_andOf : GoodIn wsX0_orOf (wsV RX0 52 RX0 yX0_andOf wsX0_andOf) := gIn (fun w h => mG h) (vG wm_223 wm_225 wm_4 wm_35 aX0_andOf)
theorem gX0_xorOf_X0_not : GoodIn wsX0_xorOf (va_wsS RX0 110 yX0_not wsX0_not) := gIn (fun w h => mG h) (sG wm_235 wm_236 wm_35 aX0_not)
theorem gX0_xorOf_X0_andOf : GoodIn wsX0_xorOf (wsV RX0 52 RX0 yX0_andOf wsX0_andOf) := gIn (fun w h => mG h) (vG wm_223 wm_225 wm_4 wm_35 aX0_andOf)
theorem gX0_xorOf_X0_orOf : GoodIn wsX0_xorOf (wsV RX0 55 RX0 yX0_orOf wsX0_orOf) := gIn (fun w h => mG h) (vG wm_272 wm_274 wm_12 wm_35 aX0_orOf)
theorem gX0_ifOf_X0_andOf : GoodIn wsX0_ifOf (wsV RX0 52 RX0 yX0_andOf wsX0_andOf) := gIn (fun w h => mG h) (vG wm_223 wm_225 wm_4 wm_35 aX0_andOf)
theorem gX0_ifOf_X0_not : GoodIn wsX0_ifOf (va_wsS RX0 110 yX0_not wsX0_not) := gIn (fun w h => mG h) (sG wm_235 wm_236 wm_35 aX0_not)
theorem gX0_ifOf_X0_orOf : GoodIn wsX0_ifOf (wsV RX0 55 RX0 yX0_orOf wsX0_orOf) := gIn (fun w h => mG h) (vG wm_272 wm_274 wm_12 wm_35 aX0_orOf)
theorem gX0_andOf_X0_knownAnd : GoodIn wsX0_andOf (wsV RX0 116 RX0 yX0_knownAnd wsX0_knownAnd) := gIn (fun w h => mG h) (vG wm_231 wm_233 wm_5 wm_35 aX0_knownAnd)
theorem gX0_andOf_X0_restOf : GoodIn wsX0_andOf (wsV RX0 119 RX0 yX0_restOf wsX0_restOf) := gIn (fun w h => mG h) (vG wm_253 wm_255 wm_9 wm_35 aX0_restOf)
theorem gX0_andOf_X0_gateOf : GoodIn wsX0_andOf (wsV RX0 122 RX0 yX0_gateOf wsX0_gateOf) := gIn (fun w h => mG h) (vG wm_257 wm_259 wm_10 wm_35 aX0_gateOf)
theorem gX0_knownAnd_X0_not : GoodIn wsX0_knownAnd (va_wsS RX0 110 yX0_not wsX0_not) := gIn (fun w h => mG h) (sG wm_235 wm_236 wm_35 aX0_not)
theorem gX0_knownAnd_X0_isGate : GoodIn wsX0_knownAnd (wsV RX0 100 RX0 yX0_isGate wsX0_isGate) := gIn (fun w h => mG h) (vG wm_238 wm_240 wm_6 wm_35 aX0_isGate)
theorem gX0_knownAnd_X0_isNegated : GoodIn wsX0_knownAnd (va_wsS RX0 125 yX0_isNegated wsX0_isNegated) := gIn (fun w h => mG h) (sG wm_242 wm_243 wm_35 aX0_isNegated)
theorem gX0_knownAnd_X0_hasLiteral : GoodIn wsX0_knownAnd (wsV RX0 128 RX0 yX0_hasLiteral wsX0_hasLiteral) := gIn (fun w h => mG h) (vG wm_245 wm_247 wm_7 wm_35 aX0_hasLiteral)
theorem gX0_knownAnd_X0_isGateAgainst : GoodIn wsX0_knownAnd (wsV RX0 132 RX0 yX0_isGateAgainst wsX0_isGateAgainst) := gIn (fun w h => mG h) (vG wm_249 wm_251 wm_8 wm_35 aX0_isGateAgainst)
theorem gX0_isGateAgainst_X0_isNegated : GoodIn wsX0_isGateAgainst (va_wsS RX0 125 yX0_isNegated wsX0_isNegated) := gIn (fun w h => mG h) (sG wm_242 wm_243 wm_35 aX0_isNegated)
theorem gX0_isGateAgainst_X0_isGate : GoodIn wsX0_isGateAgainst (wsV RX0 100 RX0 yX0_isGate wsX0_isGate) := gIn (fun w h => mG h) (vG wm_238 wm_240 wm_6 wm_35 aX0_isGate)
theorem gX0_isGateAgainst_X0_not : GoodIn wsX0_isGateAgainst (va_wsS RX0 110 yX0_not wsX0_not) := gIn (fun w h => mG h) (sG wm_235 wm_236 wm_35 aX0_not)
theorem gX0_isGateAgainst_X0_hasLiteral : GoodIn wsX0_isGateAgainst (wsV RX0 128 RX0 yX0_hasLiteral wsX0_hasLiteral) := gIn (fun w h => mG h) (vG wm_245 wm_247 wm_7 wm_35 aX0_hasLiteral)
theorem gX0_restOf_X0_isNegated : GoodIn wsX0_restOf (va_wsS RX0 125 yX0_isNegated wsX0_isNegated) := gIn (fun w h => mG h) (sG wm_242 wm_243 wm_35 aX0_isNegated)
theorem gX0_restOf_X0_isGate : GoodIn wsX0_restOf (wsV RX0 100 RX0 yX0_isGate wsX0_isGate) := gIn (fun w h => mG h) (vG wm_238 wm_240 wm_6 wm_35 aX0_isGate)
theorem gX0_restOf_X0_not : GoodIn wsX0_restOf (va_wsS RX0 110 yX0_not wsX0_not) := gIn (fun w h => mG h) (sG wm_235 wm_236 wm_35 aX0_not)
theorem gX0_gateOf_X0_newNode : GoodIn wsX0_gateOf (wsV RX0 44 RX0 yX0_newNode wsX0_newNode) := gIn (fun w h => mG h) (vG wm_104 wm_106 wm_0 wm_35 aX0_newNode)
theorem gX0_gateOf_X0_enterGate : GoodIn wsX0_gateOf (wsV RX0 135 RX0 yX0_enterGate wsX0_enterGate) := gIn (fun w h => mG h) (vG wm_261 wm_263 wm_11 wm_35 aX0_enterGate)
theorem gX0_newNode_X0_growRows : GoodIn wsX0_newNode (wsV RX0 144 RX0 yX0_growRows wsX0_growRows) := gIn (fun w h => mG h) (vG wm_175 wm_177 wm_2 wm_35 aX0_growRows)
theorem gX0_growRows_J7_copyOf : GoodIn wsX0_growRows (va_wsS RX0 147 yJ7_copyOf wsJ7_copyOf) := gIn (fun w h => mG h) (sG wm_179 wm_180 wm_41 aJ7_copyOf)
theorem gX0_settle_X0_isGate : GoodIn wsX0_settle (wsV RX0 100 RX0 yX0_isGate wsX0_isGate) := gIn (fun w h => mG h) (vG wm_238 wm_240 wm_6 wm_35 aX0_isGate)
theorem gX0_settle_X0_valueNow : GoodIn wsX0_settle (wsV RX0 85 RX0 yX0_valueNow wsX0_valueNow) := gIn (fun w h => mG h) (vG wm_325 wm_327 wm_19 wm_35 aX0_valueNow)
theorem gX0_markUnder_X0_isGate : GoodIn wsX0_markUnder (wsV RX0 100 RX0 yX0_isGate wsX0_isGate) := gIn (fun w h => mG h) (vG wm_238 wm_240 wm_6 wm_35 aX0_isGate)
theorem gX1_input_X1_add : GoodIn wsX1_input (wsV RX1 34 RX1 yX1_add wsX1_add) := gIn (fun w h => mG h) (vG wm_402 wm_404 wm_21 wm_36 aX1_add)
theorem gX1_rule_X1_isGate : GoodIn wsX1_rule (wsV RX1 41 RX1 yX1_isGate wsX1_isGate) := gIn (fun w h => mG h) (vG wm_418 wm_420 wm_24 wm_36 aX1_isGate)
theorem gX1_rule_X1_has : GoodIn wsX1_rule (wsV RX1 45 RX1 yX1_has wsX1_has) := gIn (fun w h => mG h) (vG wm_422 wm_424 wm_25 wm_36 aX1_has)
theorem gX1_gate_X1_add : GoodIn wsX1_gate (wsV RX1 34 RX1 yX1_add wsX1_add) := gIn (fun w h => mG h) (vG wm_402 wm_404 wm_21 wm_36 aX1_add)
theorem gX1_make_X1_isGate : GoodIn wsX1_make (wsV RX1 41 RX1 yX1_isGate wsX1_isGate) := gIn (fun w h => mG h) (vG wm_418 wm_420 wm_24 wm_36 aX1_isGate)
theorem gX1_make_X1_has : GoodIn wsX1_make (wsV RX1 45 RX1 yX1_has wsX1_has) := gIn (fun w h => mG h) (vG wm_422 wm_424 wm_25 wm_36 aX1_has)
theorem gX1_make_X1_beside : GoodIn wsX1_make (wsV RX1 49 RX1 yX1_beside wsX1_beside) := gIn (fun w h => mG h) (vG wm_426 wm_428 wm_26 wm_36 aX1_beside)
theorem gX1_make_X1_rule : GoodIn wsX1_make (wsV RX1 53 RX1 yX1_rule wsX1_rule) := gIn (fun w h => mG h) (vG wm_430 wm_432 wm_27 wm_36 aX1_rule)
theorem gX1_make_X1_gate : GoodIn wsX1_make (wsV RX1 56 RX1 yX1_gate wsX1_gate) := gIn (fun w h => mG h) (vG wm_434 wm_436 wm_28 wm_36 aX1_gate)
theorem gX1_or_X1_make : GoodIn wsX1_or (wsV RX1 59 RX1 yX1_make wsX1_make) := gIn (fun w h => mG h) (vG wm_414 wm_416 wm_23 wm_36 aX1_make)
theorem gX1_xor_X1_make : GoodIn wsX1_xor (wsV RX1 59 RX1 yX1_make wsX1_make) := gIn (fun w h => mG h) (vG wm_414 wm_416 wm_23 wm_36 aX1_make)
theorem gX1_xor_X1_or : GoodIn wsX1_xor (wsV RX1 62 RX1 yX1_or wsX1_or) := gIn (fun w h => mG h) (vG wm_442 wm_444 wm_29 wm_36 aX1_or)
theorem gX1_and_X1_isLiteral : GoodIn wsX1_and (wsV RX1 65 RX1 yX1_isLiteral wsX1_isLiteral) := gIn (fun w h => mG h) (vG wm_410 wm_412 wm_22 wm_36 aX1_isLiteral)
theorem gX1_and_X1_make : GoodIn wsX1_and (wsV RX1 59 RX1 yX1_make wsX1_make) := gIn (fun w h => mG h) (vG wm_414 wm_416 wm_23 wm_36 aX1_make)
theorem gX1_join_X1_isLiteral : GoodIn wsX1_join (wsV RX1 65 RX1 yX1_isLiteral wsX1_isLiteral) := gIn (fun w h => mG h) (vG wm_410 wm_412 wm_22 wm_36 aX1_isLiteral)
theorem gX1_join_X1_or : GoodIn wsX1_join (wsV RX1 62 RX1 yX1_or wsX1_or) := gIn (fun w h => mG h) (vG wm_442 wm_444 wm_29 wm_36 aX1_or)
theorem gX1_join_X1_xor : GoodIn wsX1_join (wsV RX1 69 RX1 yX1_xor wsX1_xor) := gIn (fun w h => mG h) (vG wm_446 wm_448 wm_30 wm_36 aX1_xor)
theorem gX1_three_X1_isLiteral : GoodIn wsX1_three (wsV RX1 65 RX1 yX1_isLiteral wsX1_isLiteral) := gIn (fun w h => mG h) (vG wm_410 wm_412 wm_22 wm_36 aX1_isLiteral)
theorem gX1_three_X1_make : GoodIn wsX1_three (wsV RX1 59 RX1 yX1_make wsX1_make) := gIn (fun w h => mG h) (vG wm_414 wm_416 wm_23 wm_36 aX1_make)
theorem gX1_three_X1_or : GoodIn wsX1_three (wsV RX1 62 RX1 yX1_or wsX1_or) := gIn (fun w h => mG h) (vG wm_442 wm_444 wm_29 wm_36 aX1_or)
theorem gX1_three_X1_xor : GoodIn wsX1_three (wsV RX1 69 RX1 yX1_xor wsX1_xor) := gIn (fun w h => mG h) (vG wm_446 wm_448 wm_30 wm_36 aX1_xor)
theorem gX1_set_X1_isInput : GoodIn wsX1_set (wsV RX1 72 RX1 yX1_isInput wsX1_isInput) := gIn (fun w h => mG h) (vG wm_458 wm_460 wm_31 wm_36 aX1_isInput)
theorem gX1_value_X1_isLiteral : GoodIn wsX1_value (wsV RX1 65 RX1 yX1_isLiteral wsX1_isLiteral) := gIn (fun w h => mG h) (vG wm_410 wm_412 wm_22 wm_36 aX1_isLiteral)
theorem gX1_value_X1_is : GoodIn wsX1_value (wsV RX1 75 RX1 yX1_is wsX1_is) := gIn (fun w h => mG h) (vG wm_466 wm_468 wm_32 wm_36 aX1_is)
theorem gX1_cone_X1_isLiteral : GoodIn wsX1_cone (wsV RX1 65 RX1 yX1_isLiteral wsX1_isLiteral) := gIn (fun w h => mG h) (vG wm_410 wm_412 wm_22 wm_36 aX1_isLiteral)
theorem gX1_cone_X1_markBelow : GoodIn wsX1_cone (wsV RX1 78 RX1 yX1_markBelow wsX1_markBelow) := gIn (fun w h => mG h) (vG wm_478 wm_480 wm_33 wm_36 aX1_markBelow)
theorem gX1_below_X1_isInput : GoodIn wsX1_below (wsV RX1 72 RX1 yX1_isInput wsX1_isInput) := gIn (fun w h => mG h) (vG wm_458 wm_460 wm_31 wm_36 aX1_isInput)
theorem gX1_below_X1_isLiteral : GoodIn wsX1_below (wsV RX1 65 RX1 yX1_isLiteral wsX1_isLiteral) := gIn (fun w h => mG h) (vG wm_410 wm_412 wm_22 wm_36 aX1_isLiteral)
theorem gX1_below_X1_markBelow : GoodIn wsX1_below (wsV RX1 78 RX1 yX1_markBelow wsX1_markBelow) := gIn (fun w h => mG h) (vG wm_478 wm_480 wm_33 wm_36 aX1_markBelow)
theorem gX1_depth_X1_isLiteral : GoodIn wsX1_depth (wsV RX1 65 RX1 yX1_isLiteral wsX1_isLiteral) := gIn (fun w h => mG h) (vG wm_410 wm_412 wm_22 wm_36 aX1_isLiteral)
theorem gL_input_X0_input : GoodIn wsL_input (wsV RL 7 RX0 yX0_input wsX0_input) := gIn (fun w h => mG h) (vG wm_100 wm_101 wm_102 wm_35 aX0_input)
theorem gL_and_X0_and : GoodIn wsL_and (wsV RL 15 RX0 yX0_and wsX0_and) := gIn (fun w h => mG h) (vG wm_199 wm_200 wm_201 wm_35 aX0_and)
theorem gL_join_X0_join : GoodIn wsL_join (wsV RL 21 RX0 yX0_join wsX0_join) := gIn (fun w h => mG h) (vG wm_268 wm_269 wm_270 wm_35 aX0_join)
theorem gL_three_X0_three : GoodIn wsL_three (wsV RL 25 RX0 yX0_three wsX0_three) := gIn (fun w h => mG h) (vG wm_284 wm_285 wm_286 wm_35 aX0_three)
theorem gL_set_X0_set : GoodIn wsL_set (wsV RL 29 RX0 yX0_set wsX0_set) := gIn (fun w h => mG h) (vG wm_296 wm_297 wm_298 wm_35 aX0_set)
theorem gL_value_X0_value : GoodIn wsL_value (wsV RL 33 RX0 yX0_value wsX0_value) := gIn (fun w h => mG h) (vG wm_317 wm_318 wm_319 wm_35 aX0_value)
theorem gL_node_X0_node : GoodIn wsL_node (wsV RL 37 RX0 yX0_node wsX0_node) := gIn (fun w h => mG h) (vG wm_332 wm_333 wm_334 wm_35 aX0_node)
theorem gL_cone_X0_cone : GoodIn wsL_cone (wsV RL 40 RX0 yX0_cone wsX0_cone) := gIn (fun w h => mG h) (vG wm_340 wm_341 wm_342 wm_35 aX0_cone)
theorem gL_below_X0_below : GoodIn wsL_below (wsV RL 44 RX0 yX0_below wsX0_below) := gIn (fun w h => mG h) (vG wm_351 wm_352 wm_353 wm_35 aX0_below)
theorem gL_depth_X0_depth : GoodIn wsL_depth (wsV RL 48 RX0 yX0_depth wsX0_depth) := gIn (fun w h => mG h) (vG wm_358 wm_359 wm_360 wm_35 aX0_depth)
theorem gL_law_X0_init : GoodIn wsG (wsX0_init) := gIn (fun w h => h) aX0_init
theorem gL_law_X1_init : GoodIn wsG (wsX1_init) := gIn (fun w h => h) aX1_init
theorem gL_law_L_input : GoodIn wsG (va_wsS RL 55 yL_input wsL_input) := gIn (fun w h => h) (sG wm_96 wm_97 wm_34 aL_input)
theorem gL_law_X1_input : GoodIn wsG (wsV RL 60 RX1 yX1_input wsX1_input) := gIn (fun w h => h) (vG wm_398 wm_399 wm_400 wm_36 aX1_input)
theorem gL_law_X1_thrown : GoodIn wsG (wsV RL 61 RX1 yX1_thrown wsX1_thrown) := gIn (fun w h => h) (vG wm_394 wm_395 wm_396 wm_36 aX1_thrown)
theorem gL_law_L_and : GoodIn wsG (va_wsS RL 64 yL_and wsL_and) := gIn (fun w h => h) (sG wm_195 wm_196 wm_34 aL_and)
theorem gL_law_X1_and : GoodIn wsG (wsV RL 67 RX1 yX1_and wsX1_and) := gIn (fun w h => h) (vG wm_406 wm_407 wm_408 wm_36 aX1_and)
theorem gL_law_L_join : GoodIn wsG (va_wsS RL 68 yL_join wsL_join) := gIn (fun w h => h) (sG wm_265 wm_266 wm_34 aL_join)
theorem gL_law_X1_join : GoodIn wsG (wsV RL 71 RX1 yX1_join wsX1_join) := gIn (fun w h => h) (vG wm_438 wm_439 wm_440 wm_36 aX1_join)
theorem gL_law_L_three : GoodIn wsG (va_wsS RL 72 yL_three wsL_three) := gIn (fun w h => h) (sG wm_281 wm_282 wm_34 aL_three)
theorem gL_law_X1_three : GoodIn wsG (wsV RL 75 RX1 yX1_three wsX1_three) := gIn (fun w h => h) (vG wm_450 wm_451 wm_452 wm_36 aX1_three)
theorem gL_law_L_set : GoodIn wsG (va_wsS RL 76 yL_set wsL_set) := gIn (fun w h => h) (sG wm_293 wm_294 wm_34 aL_set)
theorem gL_law_X1_set : GoodIn wsG (wsV RL 79 RX1 yX1_set wsX1_set) := gIn (fun w h => h) (vG wm_454 wm_455 wm_456 wm_36 aX1_set)
theorem gL_law_L_value : GoodIn wsG (va_wsS RL 80 yL_value wsL_value) := gIn (fun w h => h) (sG wm_314 wm_315 wm_34 aL_value)
theorem gL_law_X1_value : GoodIn wsG (wsV RL 83 RX1 yX1_value wsX1_value) := gIn (fun w h => h) (vG wm_462 wm_463 wm_464 wm_36 aX1_value)
theorem gL_law_L_node : GoodIn wsG (va_wsS RL 84 yL_node wsL_node) := gIn (fun w h => h) (sG wm_329 wm_330 wm_34 aL_node)
theorem gL_law_X1_node : GoodIn wsG (wsV RL 86 RX1 yX1_node wsX1_node) := gIn (fun w h => h) (vG wm_470 wm_471 wm_472 wm_36 aX1_node)
theorem gL_law_L_cone : GoodIn wsG (va_wsS RL 87 yL_cone wsL_cone) := gIn (fun w h => h) (sG wm_337 wm_338 wm_34 aL_cone)
theorem gL_law_X1_cone : GoodIn wsG (wsV RL 89 RX1 yX1_cone wsX1_cone) := gIn (fun w h => h) (vG wm_474 wm_475 wm_476 wm_36 aX1_cone)
theorem gL_law_L_below : GoodIn wsG (va_wsS RL 90 yL_below wsL_below) := gIn (fun w h => h) (sG wm_348 wm_349 wm_34 aL_below)
theorem gL_law_X1_below : GoodIn wsG (wsV RL 92 RX1 yX1_below wsX1_below) := gIn (fun w h => h) (vG wm_482 wm_483 wm_484 wm_36 aX1_below)
theorem gL_law_L_depth : GoodIn wsG (va_wsS RL 93 yL_depth wsL_depth) := gIn (fun w h => h) (sG wm_355 wm_356 wm_34 aL_depth)
theorem gL_law_X1_depth : GoodIn wsG (wsV RL 95 RX1 yX1_depth wsX1_depth) := gIn (fun w h => h) (vG wm_486 wm_487 wm_488 wm_36 aX1_depth)
theorem gL_law_X0_nodes : GoodIn wsG (wsV RL 96 RX0 yX0_nodes wsX0_nodes) := gIn (fun w h => h) (vG wm_88 wm_89 wm_90 wm_35 aX0_nodes)
theorem gL_law_X1_nodes : GoodIn wsG (wsV RL 99 RX1 yX1_nodes wsX1_nodes) := gIn (fun w h => h) (vG wm_490 wm_491 wm_492 wm_36 aX1_nodes)
theorem gL_law_X0_inputs : GoodIn wsG (wsV RL 100 RX0 yX0_inputs wsX0_inputs) := gIn (fun w h => h) (vG wm_92 wm_93 wm_94 wm_35 aX0_inputs)
theorem gL_law_X1_inputs : GoodIn wsG (wsV RL 103 RX1 yX1_inputs wsX1_inputs) := gIn (fun w h => h) (vG wm_494 wm_495 wm_496 wm_36 aX1_inputs)
