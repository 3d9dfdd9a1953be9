theorem k_Act_init (x0 : Nat) (h : xH) : xC M_Act_init [.ref x0] h = xR none 0 M_Act_init 0 [some (.ref x0)] [] h := rfl
theorem q_Act_init (x0 : Nat) : xmk M_Act_init [.ref x0] = 0 := rfl
theorem o_Act_init : xmo M_Act_init = 0 := rfl
theorem k_Act_undoIn (x0 : Nat) (x1 : Nat) (h : xH) : xC M_Act_undoIn [.ref x0, .ref x1] h = xR none 2 M_Act_undoIn 0 [some (.ref x0), some (.ref x1)] [] h := rfl
theorem q_Act_undoIn (x0 : Nat) (x1 : Nat) : xmk M_Act_undoIn [.ref x0, .ref x1] = 2 := rfl
theorem o_Act_undoIn : xmo M_Act_undoIn = 0 := rfl
theorem k_ActRow_init (x0 : Nat) (h : xH) : xC M_ActRow_init [.ref x0] h = xR none 1 M_ActRow_init 0 [some (.ref x0), none] [] h := rfl
theorem q_ActRow_init (x0 : Nat) : xmk M_ActRow_init [.ref x0] = 1 := rfl
theorem o_ActRow_init : xmo M_ActRow_init = 1 := rfl
theorem k_ActRow_clear (x0 : Nat) (h : xH) : xC M_ActRow_clear [.ref x0] h = xR none 0 M_ActRow_clear 0 [some (.ref x0)] [] h := rfl
theorem q_ActRow_clear (x0 : Nat) : xmk M_ActRow_clear [.ref x0] = 0 := rfl
theorem o_ActRow_clear : xmo M_ActRow_clear = 1 := rfl
theorem k_ActRow_next (x0 : Nat) (x1 : Int32) (h : xH) : xC M_ActRow_next [.ref x0, .int x1] h = xR none 1 M_ActRow_next 0 [some (.ref x0), some (.int x1), none] [] h := rfl
theorem q_ActRow_next (x0 : Nat) (x1 : Int32) : xmk M_ActRow_next [.ref x0, .int x1] = 1 := rfl
theorem o_ActRow_next : xmo M_ActRow_next = 1 := rfl
theorem k_ActRow_undoLast (x0 : Nat) (x1 : Nat) (h : xH) : xC M_ActRow_undoLast [.ref x0, .ref x1] h = xR none 3 M_ActRow_undoLast 0 [some (.ref x0), some (.ref x1)] [] h := rfl
theorem q_ActRow_undoLast (x0 : Nat) (x1 : Nat) : xmk M_ActRow_undoLast [.ref x0, .ref x1] = 3 := rfl
theorem o_ActRow_undoLast : xmo M_ActRow_undoLast = 1 := rfl
theorem k_ActRow_forgetFirst (x0 : Nat) (h : xH) : xC M_ActRow_forgetFirst [.ref x0] h = xR none 0 M_ActRow_forgetFirst 0 [some (.ref x0), none, none] [] h := rfl
theorem q_ActRow_forgetFirst (x0 : Nat) : xmk M_ActRow_forgetFirst [.ref x0] = 0 := rfl
theorem o_ActRow_forgetFirst : xmo M_ActRow_forgetFirst = 1 := rfl
theorem k_Chances_init (x0 : Nat) (h : xH) : xC M_Chances_init [.ref x0] h = xR none 0 M_Chances_init 0 [some (.ref x0)] [] h := rfl
theorem q_Chances_init (x0 : Nat) : xmk M_Chances_init [.ref x0] = 0 := rfl
theorem o_Chances_init : xmo M_Chances_init = 2 := rfl
theorem k_Chances_spread (x0 : Nat) (x1 : Int32) (x2 : Int32) (h : xH) : xC M_Chances_spread [.ref x0, .int x1, .int x2] h = xR none 0 M_Chances_spread 0 [some (.ref x0), some (.int x1), some (.int x2), none, none] [] h := rfl
theorem q_Chances_spread (x0 : Nat) (x1 : Int32) (x2 : Int32) : xmk M_Chances_spread [.ref x0, .int x1, .int x2] = 0 := rfl
theorem o_Chances_spread : xmo M_Chances_spread = 2 := rfl
theorem k_Chances_costInAll (x0 : Nat) (x1 : Int32) (x2 : Int32) (x3 : Int32) (h : xH) : xC M_Chances_costInAll [.ref x0, .int x1, .int x2, .int x3] h = xR none 1 M_Chances_costInAll 0 [some (.ref x0), some (.int x1), some (.int x2), some (.int x3), none, none, none] [] h := rfl
theorem q_Chances_costInAll (x0 : Nat) (x1 : Int32) (x2 : Int32) (x3 : Int32) : xmk M_Chances_costInAll [.ref x0, .int x1, .int x2, .int x3] = 1 := rfl
theorem o_Chances_costInAll : xmo M_Chances_costInAll = 2 := rfl
theorem k_Chances_waysInAll (x0 : Nat) (x1 : Int32) (h : xH) : xC M_Chances_waysInAll [.ref x0, .int x1] h = xR none 0 M_Chances_waysInAll 0 [some (.ref x0), some (.int x1), none, none, none] [] h := rfl
theorem q_Chances_waysInAll (x0 : Nat) (x1 : Int32) : xmk M_Chances_waysInAll [.ref x0, .int x1] = 0 := rfl
theorem o_Chances_waysInAll : xmo M_Chances_waysInAll = 2 := rfl
theorem k_Kept_init (x0 : Nat) (h : xH) : xC M_Kept_init [.ref x0] h = xR none 0 M_Kept_init 0 [some (.ref x0)] [] h := rfl
theorem q_Kept_init (x0 : Nat) : xmk M_Kept_init [.ref x0] = 0 := rfl
theorem o_Kept_init : xmo M_Kept_init = 3 := rfl
theorem k_Kept_drop (x0 : Nat) (h : xH) : xC M_Kept_drop [.ref x0] h = xR none 0 M_Kept_drop 0 [some (.ref x0)] [] h := rfl
theorem q_Kept_drop (x0 : Nat) : xmk M_Kept_drop [.ref x0] = 0 := rfl
theorem o_Kept_drop : xmo M_Kept_drop = 3 := rfl
theorem k_Kept_take (x0 : Nat) (x1 : Nat) (h : xH) : xC M_Kept_take [.ref x0, .ref x1] h = xR none 0 M_Kept_take 0 [some (.ref x0), some (.ref x1)] [] h := rfl
theorem q_Kept_take (x0 : Nat) (x1 : Nat) : xmk M_Kept_take [.ref x0, .ref x1] = 0 := rfl
theorem o_Kept_take : xmo M_Kept_take = 3 := rfl
theorem k_Kept_fits (x0 : Nat) (x1 : Nat) (h : xH) : xC M_Kept_fits [.ref x0, .ref x1] h = xR none 0 M_Kept_fits 0 [some (.ref x0), some (.ref x1), none] [] h := rfl
theorem q_Kept_fits (x0 : Nat) (x1 : Nat) : xmk M_Kept_fits [.ref x0, .ref x1] = 0 := rfl
theorem o_Kept_fits : xmo M_Kept_fits = 3 := rfl
theorem k_Kept_giveTo (x0 : Nat) (x1 : Nat) (h : xH) : xC M_Kept_giveTo [.ref x0, .ref x1] h = xR none 0 M_Kept_giveTo 0 [some (.ref x0), some (.ref x1)] [] h := rfl
theorem q_Kept_giveTo (x0 : Nat) (x1 : Nat) : xmk M_Kept_giveTo [.ref x0, .ref x1] = 0 := rfl
theorem o_Kept_giveTo : xmo M_Kept_giveTo = 3 := rfl
theorem k_Planner_init (x0 : Nat) (h : xH) : xC M_Planner_init [.ref x0] h = xR none 0 M_Planner_init 0 [some (.ref x0), none] [] h := rfl
theorem q_Planner_init (x0 : Nat) : xmk M_Planner_init [.ref x0] = 0 := rfl
theorem o_Planner_init : xmo M_Planner_init = 4 := rfl
theorem k_Planner_gather (x0 : Nat) (x1 : Nat) (x2 : Int32) (h : xH) : xC M_Planner_gather [.ref x0, .ref x1, .int x2] h = xR none 12 M_Planner_gather 0 [some (.ref x0), some (.ref x1), some (.int x2), none] [] h := rfl
theorem q_Planner_gather (x0 : Nat) (x1 : Nat) (x2 : Int32) : xmk M_Planner_gather [.ref x0, .ref x1, .int x2] = 12 := rfl
theorem o_Planner_gather : xmo M_Planner_gather = 4 := rfl
theorem k_Planner_leastCost (x0 : Nat) (x1 : Int32) (h : xH) : xC M_Planner_leastCost [.ref x0, .int x1] h = xR none 7 M_Planner_leastCost 0 [some (.ref x0), some (.int x1)] [] h := rfl
theorem q_Planner_leastCost (x0 : Nat) (x1 : Int32) : xmk M_Planner_leastCost [.ref x0, .int x1] = 7 := rfl
theorem o_Planner_leastCost : xmo M_Planner_leastCost = 4 := rfl
theorem k_Planner_firstPlanAt (x0 : Nat) (x1 : Int32) (x2 : Int32) (h : xH) : xC M_Planner_firstPlanAt [.ref x0, .int x1, .int x2] h = xR none 17 M_Planner_firstPlanAt 0 [some (.ref x0), some (.int x1), some (.int x2), none, none] [] h := rfl
theorem q_Planner_firstPlanAt (x0 : Nat) (x1 : Int32) (x2 : Int32) : xmk M_Planner_firstPlanAt [.ref x0, .int x1, .int x2] = 17 := rfl
theorem o_Planner_firstPlanAt : xmo M_Planner_firstPlanAt = 4 := rfl
theorem k_Planner_gatherThings (x0 : Nat) (h : xH) : xC M_Planner_gatherThings [.ref x0] h = xR none 0 M_Planner_gatherThings 0 [some (.ref x0), none] [] h := rfl
theorem q_Planner_gatherThings (x0 : Nat) : xmk M_Planner_gatherThings [.ref x0] = 0 := rfl
theorem o_Planner_gatherThings : xmo M_Planner_gatherThings = 4 := rfl
theorem k_Planner_gatherNeeds (x0 : Nat) (h : xH) : xC M_Planner_gatherNeeds [.ref x0] h = xR none 0 M_Planner_gatherNeeds 0 [some (.ref x0), none, none] [] h := rfl
theorem q_Planner_gatherNeeds (x0 : Nat) : xmk M_Planner_gatherNeeds [.ref x0] = 0 := rfl
theorem o_Planner_gatherNeeds : xmo M_Planner_gatherNeeds = 4 := rfl
theorem k_Planner_lentFor (x0 : Nat) (x1 : Int32) (x2 : Int32) (h : xH) : xC M_Planner_lentFor [.ref x0, .int x1, .int x2] h = xR none 1 M_Planner_lentFor 0 [some (.ref x0), some (.int x1), some (.int x2), none, none] [] h := rfl
theorem q_Planner_lentFor (x0 : Nat) (x1 : Int32) (x2 : Int32) : xmk M_Planner_lentFor [.ref x0, .int x1, .int x2] = 1 := rfl
theorem o_Planner_lentFor : xmo M_Planner_lentFor = 4 := rfl
theorem k_Planner_findSets (x0 : Nat) (x1 : Int32) (x2 : Int32) (x3 : Int32) (x4 : Int32) (h : xH) : xC M_Planner_findSets [.ref x0, .int x1, .int x2, .int x3, .int x4] h = xR none (2 + (9 - x1.toNatClampNeg)) M_Planner_findSets 0 [some (.ref x0), some (.int x1), some (.int x2), some (.int x3), some (.int x4), none, none] [] h := rfl
theorem q_Planner_findSets (x0 : Nat) (x1 : Int32) (x2 : Int32) (x3 : Int32) (x4 : Int32) : xmk M_Planner_findSets [.ref x0, .int x1, .int x2, .int x3, .int x4] = (2 + (9 - x1.toNatClampNeg)) := rfl
theorem o_Planner_findSets : xmo M_Planner_findSets = 4 := rfl
theorem k_Planner_listSets (x0 : Nat) (x1 : Int32) (h : xH) : xC M_Planner_listSets [.ref x0, .int x1] h = xR none 1 M_Planner_listSets 0 [some (.ref x0), some (.int x1), none] [] h := rfl
theorem q_Planner_listSets (x0 : Nat) (x1 : Int32) : xmk M_Planner_listSets [.ref x0, .int x1] = 1 := rfl
theorem o_Planner_listSets : xmo M_Planner_listSets = 4 := rfl
theorem k_Planner_hasListedSetIn (x0 : Nat) (x1 : Int32) (x2 : Int32) (h : xH) : xC M_Planner_hasListedSetIn [.ref x0, .int x1, .int x2] h = xR none 0 M_Planner_hasListedSetIn 0 [some (.ref x0), some (.int x1), some (.int x2), none] [] h := rfl
theorem q_Planner_hasListedSetIn (x0 : Nat) (x1 : Int32) (x2 : Int32) : xmk M_Planner_hasListedSetIn [.ref x0, .int x1, .int x2] = 0 := rfl
theorem o_Planner_hasListedSetIn : xmo M_Planner_hasListedSetIn = 4 := rfl
theorem k_Planner_priceAt (x0 : Nat) (x1 : Int32) (h : xH) : xC M_Planner_priceAt [.ref x0, .int x1] h = xR none 1 M_Planner_priceAt 0 [some (.ref x0), some (.int x1), none, none, none] [] h := rfl
theorem q_Planner_priceAt (x0 : Nat) (x1 : Int32) : xmk M_Planner_priceAt [.ref x0, .int x1] = 1 := rfl
theorem o_Planner_priceAt : xmo M_Planner_priceAt = 4 := rfl
theorem k_Planner_costOfSet (x0 : Nat) (x1 : Int32) (x2 : Int32) (h : xH) : xC M_Planner_costOfSet [.ref x0, .int x1, .int x2] h = xR none 0 M_Planner_costOfSet 0 [some (.ref x0), some (.int x1), some (.int x2), none, none] [] h := rfl
theorem q_Planner_costOfSet (x0 : Nat) (x1 : Int32) (x2 : Int32) : xmk M_Planner_costOfSet [.ref x0, .int x1, .int x2] = 0 := rfl
theorem o_Planner_costOfSet : xmo M_Planner_costOfSet = 4 := rfl
theorem k_Planner_costFrom (x0 : Nat) (x1 : Int32) (x2 : Int32) (h : xH) : xC M_Planner_costFrom [.ref x0, .int x1, .int x2] h = xR none (1 + (5 - x1.toNatClampNeg)) M_Planner_costFrom 0 [some (.ref x0), some (.int x1), some (.int x2), none, none, none, none] [] h := rfl
theorem q_Planner_costFrom (x0 : Nat) (x1 : Int32) (x2 : Int32) : xmk M_Planner_costFrom [.ref x0, .int x1, .int x2] = (1 + (5 - x1.toNatClampNeg)) := rfl
theorem o_Planner_costFrom : xmo M_Planner_costFrom = 4 := rfl
theorem k_Planner_planDay (x0 : Nat) (x1 : Int32) (x2 : Int32) (x3 : Int32) (x4 : Int32) (x5 : Int32) (h : xH) : xC M_Planner_planDay [.ref x0, .int x1, .int x2, .int x3, .int x4, .int x5] h = xR none (7 + (9 - x2.toNatClampNeg)) M_Planner_planDay 0 [some (.ref x0), some (.int x1), some (.int x2), some (.int x3), some (.int x4), some (.int x5), none, none] [] h := rfl
theorem q_Planner_planDay (x0 : Nat) (x1 : Int32) (x2 : Int32) (x3 : Int32) (x4 : Int32) (x5 : Int32) : xmk M_Planner_planDay [.ref x0, .int x1, .int x2, .int x3, .int x4, .int x5] = (7 + (9 - x2.toNatClampNeg)) := rfl
theorem o_Planner_planDay : xmo M_Planner_planDay = 4 := rfl
theorem k_Reader_init (x0 : Nat) (h : xH) : xC M_Reader_init [.ref x0] h = xR none 0 M_Reader_init 0 [some (.ref x0)] [] h := rfl
theorem q_Reader_init (x0 : Nat) : xmk M_Reader_init [.ref x0] = 0 := rfl
theorem o_Reader_init : xmo M_Reader_init = 5 := rfl
theorem k_Reader_readInto (x0 : Nat) (x1 : Nat) (x2 : Nat) (x3 : Int32) (h : xH) : xC M_Reader_readInto [.ref x0, .ref x1, .ref x2, .int x3] h = xR none 5 M_Reader_readInto 0 [some (.ref x0), some (.ref x1), some (.ref x2), some (.int x3), none] [] h := rfl
theorem q_Reader_readInto (x0 : Nat) (x1 : Nat) (x2 : Nat) (x3 : Int32) : xmk M_Reader_readInto [.ref x0, .ref x1, .ref x2, .int x3] = 5 := rfl
theorem o_Reader_readInto : xmo M_Reader_readInto = 5 := rfl
theorem k_Reader_readHead (x0 : Nat) (h : xH) : xC M_Reader_readHead [.ref x0] h = xR none 1 M_Reader_readHead 0 [some (.ref x0)] [] h := rfl
theorem q_Reader_readHead (x0 : Nat) : xmk M_Reader_readHead [.ref x0] = 1 := rfl
theorem o_Reader_readHead : xmo M_Reader_readHead = 5 := rfl
theorem k_Reader_readPart (x0 : Nat) (h : xH) : xC M_Reader_readPart [.ref x0] h = xR none 4 M_Reader_readPart 0 [some (.ref x0), none] [] h := rfl
theorem q_Reader_readPart (x0 : Nat) : xmk M_Reader_readPart [.ref x0] = 4 := rfl
theorem o_Reader_readPart : xmo M_Reader_readPart = 5 := rfl
theorem k_Reader_mayBegin (x0 : Nat) (x1 : Int32) (h : xH) : xC M_Reader_mayBegin [.ref x0, .int x1] h = xR none 3 M_Reader_mayBegin 0 [some (.ref x0), some (.int x1)] [] h := rfl
theorem q_Reader_mayBegin (x0 : Nat) (x1 : Int32) : xmk M_Reader_mayBegin [.ref x0, .int x1] = 3 := rfl
theorem o_Reader_mayBegin : xmo M_Reader_mayBegin = 5 := rfl
theorem k_Reader_readPerson (x0 : Nat) (h : xH) : xC M_Reader_readPerson [.ref x0] h = xR none 1 M_Reader_readPerson 0 [some (.ref x0), none, none] [] h := rfl
theorem q_Reader_readPerson (x0 : Nat) : xmk M_Reader_readPerson [.ref x0] = 1 := rfl
theorem o_Reader_readPerson : xmo M_Reader_readPerson = 5 := rfl
theorem k_Reader_readKnowing (x0 : Nat) (h : xH) : xC M_Reader_readKnowing [.ref x0] h = xR none 3 M_Reader_readKnowing 0 [some (.ref x0), none, none] [] h := rfl
theorem q_Reader_readKnowing (x0 : Nat) : xmk M_Reader_readKnowing [.ref x0] = 3 := rfl
theorem o_Reader_readKnowing : xmo M_Reader_readKnowing = 5 := rfl
theorem k_Reader_readThing (x0 : Nat) (h : xH) : xC M_Reader_readThing [.ref x0] h = xR none 2 M_Reader_readThing 0 [some (.ref x0), none, none, none] [] h := rfl
theorem q_Reader_readThing (x0 : Nat) : xmk M_Reader_readThing [.ref x0] = 2 := rfl
theorem o_Reader_readThing : xmo M_Reader_readThing = 5 := rfl
theorem k_Reader_readNeed (x0 : Nat) (h : xH) : xC M_Reader_readNeed [.ref x0] h = xR none 2 M_Reader_readNeed 0 [some (.ref x0), none, none, none] [] h := rfl
theorem q_Reader_readNeed (x0 : Nat) : xmk M_Reader_readNeed [.ref x0] = 2 := rfl
theorem o_Reader_readNeed : xmo M_Reader_readNeed = 5 := rfl
theorem k_Reader_figureOf (x0 : Nat) (x1 : Int32) (h : xH) : xC M_Reader_figureOf [.ref x0, .int x1] h = xR none 0 M_Reader_figureOf 0 [some (.ref x0), some (.int x1), none] [] h := rfl
theorem q_Reader_figureOf (x0 : Nat) (x1 : Int32) : xmk M_Reader_figureOf [.ref x0, .int x1] = 0 := rfl
theorem o_Reader_figureOf : xmo M_Reader_figureOf = 5 := rfl
theorem k_Reader_strangersOf (x0 : Nat) (x1 : Int32) (h : xH) : xC M_Reader_strangersOf [.ref x0, .int x1] h = xR none 1 M_Reader_strangersOf 0 [some (.ref x0), some (.int x1)] [] h := rfl
theorem q_Reader_strangersOf (x0 : Nat) (x1 : Int32) : xmk M_Reader_strangersOf [.ref x0, .int x1] = 1 := rfl
theorem o_Reader_strangersOf : xmo M_Reader_strangersOf = 5 := rfl
theorem k_Reader_whoCanKnowMore (x0 : Nat) (h : xH) : xC M_Reader_whoCanKnowMore [.ref x0] h = xR none 2 M_Reader_whoCanKnowMore 0 [some (.ref x0), none, none] [] h := rfl
theorem q_Reader_whoCanKnowMore (x0 : Nat) : xmk M_Reader_whoCanKnowMore [.ref x0] = 2 := rfl
theorem o_Reader_whoCanKnowMore : xmo M_Reader_whoCanKnowMore = 5 := rfl
theorem k_Reader_freeDays (x0 : Nat) (x1 : Int32) (x2 : Int32) (h : xH) : xC M_Reader_freeDays [.ref x0, .int x1, .int x2] h = xR none 0 M_Reader_freeDays 0 [some (.ref x0), some (.int x1), some (.int x2), none, none] [] h := rfl
theorem q_Reader_freeDays (x0 : Nat) (x1 : Int32) (x2 : Int32) : xmk M_Reader_freeDays [.ref x0, .int x1, .int x2] = 0 := rfl
theorem o_Reader_freeDays : xmo M_Reader_freeDays = 5 := rfl
theorem k_Reader_sortsWithFreeDays (x0 : Nat) (x1 : Int32) (h : xH) : xC M_Reader_sortsWithFreeDays [.ref x0, .int x1] h = xR none 1 M_Reader_sortsWithFreeDays 0 [some (.ref x0), some (.int x1), none, none] [] h := rfl
theorem q_Reader_sortsWithFreeDays (x0 : Nat) (x1 : Int32) : xmk M_Reader_sortsWithFreeDays [.ref x0, .int x1] = 1 := rfl
theorem o_Reader_sortsWithFreeDays : xmo M_Reader_sortsWithFreeDays = 5 := rfl
theorem k_Sight_init (x0 : Nat) (h : xH) : xC M_Sight_init [.ref x0] h = xR none 0 M_Sight_init 0 [some (.ref x0)] [] h := rfl
theorem q_Sight_init (x0 : Nat) : xmk M_Sight_init [.ref x0] = 0 := rfl
theorem o_Sight_init : xmo M_Sight_init = 6 := rfl
theorem k_Sight_add (x0 : Nat) (x1 : Int32) (x2 : Int32) (x3 : Int32) (h : xH) : xC M_Sight_add [.ref x0, .int x1, .int x2, .int x3] h = xR none 0 M_Sight_add 0 [some (.ref x0), some (.int x1), some (.int x2), some (.int x3)] [] h := rfl
theorem q_Sight_add (x0 : Nat) (x1 : Int32) (x2 : Int32) (x3 : Int32) : xmk M_Sight_add [.ref x0, .int x1, .int x2, .int x3] = 0 := rfl
theorem o_Sight_add : xmo M_Sight_add = 6 := rfl
theorem k_Sight_rowsWithout (x0 : Nat) (x1 : Int32) (x2 : Nat) (x3 : Int32) (x4 : Int32) (h : xH) : xC M_Sight_rowsWithout [.ref x0, .int x1, .ref x2, .int x3, .int x4] h = xR none 2 M_Sight_rowsWithout 0 [some (.ref x0), some (.int x1), some (.ref x2), some (.int x3), some (.int x4), none, none, none, none] [] h := rfl
theorem q_Sight_rowsWithout (x0 : Nat) (x1 : Int32) (x2 : Nat) (x3 : Int32) (x4 : Int32) : xmk M_Sight_rowsWithout [.ref x0, .int x1, .ref x2, .int x3, .int x4] = 2 := rfl
theorem o_Sight_rowsWithout : xmo M_Sight_rowsWithout = 6 := rfl
theorem k_Sight_fitting (x0 : Nat) (x1 : Int32) (x2 : Nat) (h : xH) : xC M_Sight_fitting [.ref x0, .int x1, .ref x2] h = xR none 1 M_Sight_fitting 0 [some (.ref x0), some (.int x1), some (.ref x2), none, none, none] [] h := rfl
theorem q_Sight_fitting (x0 : Nat) (x1 : Int32) (x2 : Nat) : xmk M_Sight_fitting [.ref x0, .int x1, .ref x2] = 1 := rfl
theorem o_Sight_fitting : xmo M_Sight_fitting = 6 := rfl
theorem k_Sight_goOn (x0 : Nat) (x1 : Int32) (x2 : Nat) (h : xH) : xC M_Sight_goOn [.ref x0, .int x1, .ref x2] h = xR none 1 M_Sight_goOn 0 [some (.ref x0), some (.int x1), some (.ref x2), none, none, none] [] h := rfl
theorem q_Sight_goOn (x0 : Nat) (x1 : Int32) (x2 : Nat) : xmk M_Sight_goOn [.ref x0, .int x1, .ref x2] = 1 := rfl
theorem o_Sight_goOn : xmo M_Sight_goOn = 6 := rfl
theorem k_Village_init (x0 : Nat) (h : xH) : xC M_Village_init [.ref x0] h = xR none 0 M_Village_init 0 [some (.ref x0)] [] h := rfl
theorem q_Village_init (x0 : Nat) : xmk M_Village_init [.ref x0] = 0 := rfl
theorem o_Village_init : xmo M_Village_init = 7 := rfl
theorem k_Village_empty (x0 : Nat) (h : xH) : xC M_Village_empty [.ref x0] h = xR none 0 M_Village_empty 0 [some (.ref x0)] [] h := rfl
theorem q_Village_empty (x0 : Nat) : xmk M_Village_empty [.ref x0] = 0 := rfl
theorem o_Village_empty : xmo M_Village_empty = 7 := rfl
theorem k_Village_addPerson (x0 : Nat) (x1 : Int32) (h : xH) : xC M_Village_addPerson [.ref x0, .int x1] h = xR none 0 M_Village_addPerson 0 [some (.ref x0), some (.int x1)] [] h := rfl
theorem q_Village_addPerson (x0 : Nat) (x1 : Int32) : xmk M_Village_addPerson [.ref x0, .int x1] = 0 := rfl
theorem o_Village_addPerson : xmo M_Village_addPerson = 7 := rfl
theorem k_Village_addThing (x0 : Nat) (x1 : Int32) (x2 : Int32) (x3 : Int32) (h : xH) : xC M_Village_addThing [.ref x0, .int x1, .int x2, .int x3] h = xR none 1 M_Village_addThing 0 [some (.ref x0), some (.int x1), some (.int x2), some (.int x3)] [] h := rfl
theorem q_Village_addThing (x0 : Nat) (x1 : Int32) (x2 : Int32) (x3 : Int32) : xmk M_Village_addThing [.ref x0, .int x1, .int x2, .int x3] = 1 := rfl
theorem o_Village_addThing : xmo M_Village_addThing = 7 := rfl
theorem k_Village_addNeed (x0 : Nat) (x1 : Int32) (x2 : Int32) (x3 : Int32) (h : xH) : xC M_Village_addNeed [.ref x0, .int x1, .int x2, .int x3] h = xR none 0 M_Village_addNeed 0 [some (.ref x0), some (.int x1), some (.int x2), some (.int x3)] [] h := rfl
theorem q_Village_addNeed (x0 : Nat) (x1 : Int32) (x2 : Int32) (x3 : Int32) : xmk M_Village_addNeed [.ref x0, .int x1, .int x2, .int x3] = 0 := rfl
theorem o_Village_addNeed : xmo M_Village_addNeed = 7 := rfl
theorem k_Village_hasPerson (x0 : Nat) (x1 : Int32) (h : xH) : xC M_Village_hasPerson [.ref x0, .int x1] h = xR none 0 M_Village_hasPerson 0 [some (.ref x0), some (.int x1)] [] h := rfl
theorem q_Village_hasPerson (x0 : Nat) (x1 : Int32) : xmk M_Village_hasPerson [.ref x0, .int x1] = 0 := rfl
theorem o_Village_hasPerson : xmo M_Village_hasPerson = 7 := rfl
theorem k_Village_hasThing (x0 : Nat) (x1 : Int32) (h : xH) : xC M_Village_hasThing [.ref x0, .int x1] h = xR none 0 M_Village_hasThing 0 [some (.ref x0), some (.int x1)] [] h := rfl
theorem q_Village_hasThing (x0 : Nat) (x1 : Int32) : xmk M_Village_hasThing [.ref x0, .int x1] = 0 := rfl
theorem o_Village_hasThing : xmo M_Village_hasThing = 7 := rfl
theorem k_Village_know (x0 : Nat) (x1 : Int32) (x2 : Int32) (h : xH) : xC M_Village_know [.ref x0, .int x1, .int x2] h = xR none 0 M_Village_know 0 [some (.ref x0), some (.int x1), some (.int x2)] [] h := rfl
theorem q_Village_know (x0 : Nat) (x1 : Int32) (x2 : Int32) : xmk M_Village_know [.ref x0, .int x1, .int x2] = 0 := rfl
theorem o_Village_know : xmo M_Village_know = 7 := rfl
theorem k_Village_everybody (x0 : Nat) (h : xH) : xC M_Village_everybody [.ref x0] h = xR none 0 M_Village_everybody 0 [some (.ref x0)] [] h := rfl
theorem q_Village_everybody (x0 : Nat) : xmk M_Village_everybody [.ref x0] = 0 := rfl
theorem o_Village_everybody : xmo M_Village_everybody = 7 := rfl
theorem k_Village_isOut (x0 : Nat) (x1 : Int32) (h : xH) : xC M_Village_isOut [.ref x0, .int x1] h = xR none 0 M_Village_isOut 0 [some (.ref x0), some (.int x1)] [] h := rfl
theorem q_Village_isOut (x0 : Nat) (x1 : Int32) : xmk M_Village_isOut [.ref x0, .int x1] = 0 := rfl
theorem o_Village_isOut : xmo M_Village_isOut = 7 := rfl
theorem k_Village_bringHome (x0 : Nat) (x1 : Int32) (h : xH) : xC M_Village_bringHome [.ref x0, .int x1] h = xR none 0 M_Village_bringHome 0 [some (.ref x0), some (.int x1)] [] h := rfl
theorem q_Village_bringHome (x0 : Nat) (x1 : Int32) : xmk M_Village_bringHome [.ref x0, .int x1] = 0 := rfl
theorem o_Village_bringHome : xmo M_Village_bringHome = 7 := rfl
theorem k_Village_passDays (x0 : Nat) (x1 : Int32) (h : xH) : xC M_Village_passDays [.ref x0, .int x1] h = xR none 1 M_Village_passDays 0 [some (.ref x0), some (.int x1), none] [] h := rfl
theorem q_Village_passDays (x0 : Nat) (x1 : Int32) : xmk M_Village_passDays [.ref x0, .int x1] = 1 := rfl
theorem o_Village_passDays : xmo M_Village_passDays = 7 := rfl
theorem k_Village_due (x0 : Nat) (x1 : Int32) (h : xH) : xC M_Village_due [.ref x0, .int x1] h = xR none 1 M_Village_due 0 [some (.ref x0), some (.int x1)] [] h := rfl
theorem q_Village_due (x0 : Nat) (x1 : Int32) : xmk M_Village_due [.ref x0, .int x1] = 1 := rfl
theorem o_Village_due : xmo M_Village_due = 7 := rfl
theorem k_Village_worth (x0 : Nat) (x1 : Int32) (h : xH) : xC M_Village_worth [.ref x0, .int x1] h = xR none 1 M_Village_worth 0 [some (.ref x0), some (.int x1)] [] h := rfl
theorem q_Village_worth (x0 : Nat) (x1 : Int32) : xmk M_Village_worth [.ref x0, .int x1] = 1 := rfl
theorem o_Village_worth : xmo M_Village_worth = 7 := rfl
theorem k_Village_worthOfAll (x0 : Nat) (x1 : Nat) (h : xH) : xC M_Village_worthOfAll [.ref x0, .ref x1] h = xR none 1 M_Village_worthOfAll 0 [some (.ref x0), some (.ref x1), none, none] [] h := rfl
theorem q_Village_worthOfAll (x0 : Nat) (x1 : Nat) : xmk M_Village_worthOfAll [.ref x0, .ref x1] = 1 := rfl
theorem o_Village_worthOfAll : xmo M_Village_worthOfAll = 7 := rfl
theorem k_Village_coinsOfAll (x0 : Nat) (h : xH) : xC M_Village_coinsOfAll [.ref x0] h = xR none 0 M_Village_coinsOfAll 0 [some (.ref x0), none, none] [] h := rfl
theorem q_Village_coinsOfAll (x0 : Nat) : xmk M_Village_coinsOfAll [.ref x0] = 0 := rfl
theorem o_Village_coinsOfAll : xmo M_Village_coinsOfAll = 7 := rfl
theorem k_Village_thingsOut (x0 : Nat) (h : xH) : xC M_Village_thingsOut [.ref x0] h = xR none 1 M_Village_thingsOut 0 [some (.ref x0), none, none] [] h := rfl
theorem q_Village_thingsOut (x0 : Nat) : xmk M_Village_thingsOut [.ref x0] = 1 := rfl
theorem o_Village_thingsOut : xmo M_Village_thingsOut = 7 := rfl
theorem k_Village_greatestGrade (x0 : Nat) (h : xH) : xC M_Village_greatestGrade [.ref x0] h = xR none 1 M_Village_greatestGrade 0 [some (.ref x0), none, none] [] h := rfl
theorem q_Village_greatestGrade (x0 : Nat) : xmk M_Village_greatestGrade [.ref x0] = 1 := rfl
theorem o_Village_greatestGrade : xmo M_Village_greatestGrade = 7 := rfl
theorem k_Village_lawAndCap (x0 : Nat) (h : xH) : xC M_Village_lawAndCap [.ref x0] h = xR none 0 M_Village_lawAndCap 0 [some (.ref x0)] [] h := rfl
theorem q_Village_lawAndCap (x0 : Nat) : xmk M_Village_lawAndCap [.ref x0] = 0 := rfl
theorem o_Village_lawAndCap : xmo M_Village_lawAndCap = 7 := rfl
theorem k_Sp_init (x0 : Nat) (h : xH) : xC M_Sp_init [.ref x0] h = xR none 2 M_Sp_init 0 [some (.ref x0)] [] h := rfl
theorem q_Sp_init (x0 : Nat) : xmk M_Sp_init [.ref x0] = 2 := rfl
theorem o_Sp_init : xmo M_Sp_init = 8 := rfl
theorem k_Sp_write (x0 : Nat) (x1 : Int32) (x2 : Int64) (h : xH) : xC M_Sp_write [.ref x0, .int x1, .long x2] h = xR none 0 M_Sp_write 0 [some (.ref x0), some (.int x1), some (.long x2), none, none] [] h := rfl
theorem q_Sp_write (x0 : Nat) (x1 : Int32) (x2 : Int64) : xmk M_Sp_write [.ref x0, .int x1, .long x2] = 0 := rfl
theorem o_Sp_write : xmo M_Sp_write = 8 := rfl
theorem k_Sp_wipe (x0 : Nat) (h : xH) : xC M_Sp_wipe [.ref x0] h = xR none 0 M_Sp_wipe 0 [some (.ref x0), none] [] h := rfl
theorem q_Sp_wipe (x0 : Nat) : xmk M_Sp_wipe [.ref x0] = 0 := rfl
theorem o_Sp_wipe : xmo M_Sp_wipe = 8 := rfl
theorem k_Sp_fault (x0 : Nat) (h : xH) : xC M_Sp_fault [.ref x0] h = xR none 6 M_Sp_fault 0 [some (.ref x0)] [] h := rfl
theorem q_Sp_fault (x0 : Nat) : xmk M_Sp_fault [.ref x0] = 6 := rfl
theorem o_Sp_fault : xmo M_Sp_fault = 8 := rfl
theorem k_Sp_village (x0 : Nat) (h : xH) : xC M_Sp_village [.ref x0] h = xR none 6 M_Sp_village 0 [some (.ref x0), none, none] [] h := rfl
theorem q_Sp_village (x0 : Nat) : xmk M_Sp_village [.ref x0] = 6 := rfl
theorem o_Sp_village : xmo M_Sp_village = 8 := rfl
theorem k_Sp_person (x0 : Nat) (x1 : Int32) (x2 : Int32) (h : xH) : xC M_Sp_person [.ref x0, .int x1, .int x2] h = xR none 1 M_Sp_person 0 [some (.ref x0), some (.int x1), some (.int x2)] [] h := rfl
theorem q_Sp_person (x0 : Nat) (x1 : Int32) (x2 : Int32) : xmk M_Sp_person [.ref x0, .int x1, .int x2] = 1 := rfl
theorem o_Sp_person : xmo M_Sp_person = 8 := rfl
theorem k_Sp_thing (x0 : Nat) (x1 : Int32) (x2 : Int32) (h : xH) : xC M_Sp_thing [.ref x0, .int x1, .int x2] h = xR none 2 M_Sp_thing 0 [some (.ref x0), some (.int x1), some (.int x2)] [] h := rfl
theorem q_Sp_thing (x0 : Nat) (x1 : Int32) (x2 : Int32) : xmk M_Sp_thing [.ref x0, .int x1, .int x2] = 2 := rfl
theorem o_Sp_thing : xmo M_Sp_thing = 8 := rfl
theorem k_Sp_law (x0 : Nat) (x1 : Int32) (x2 : Int32) (h : xH) : xC M_Sp_law [.ref x0, .int x1, .int x2] h = xR none 2 M_Sp_law 0 [some (.ref x0), some (.int x1), some (.int x2), none] [] h := rfl
theorem q_Sp_law (x0 : Nat) (x1 : Int32) (x2 : Int32) : xmk M_Sp_law [.ref x0, .int x1, .int x2] = 2 := rfl
theorem o_Sp_law : xmo M_Sp_law = 8 := rfl
theorem k_Sp_lend (x0 : Nat) (x1 : Int32) (x2 : Int32) (h : xH) : xC M_Sp_lend [.ref x0, .int x1, .int x2] h = xR none 2 M_Sp_lend 0 [some (.ref x0), some (.int x1), some (.int x2), none] [] h := rfl
theorem q_Sp_lend (x0 : Nat) (x1 : Int32) (x2 : Int32) : xmk M_Sp_lend [.ref x0, .int x1, .int x2] = 2 := rfl
theorem o_Sp_lend : xmo M_Sp_lend = 8 := rfl
theorem k_Sp_back (x0 : Nat) (x1 : Int32) (x2 : Int32) (h : xH) : xC M_Sp_back [.ref x0, .int x1, .int x2] h = xR none 2 M_Sp_back 0 [some (.ref x0), some (.int x1), some (.int x2), none, none, none] [] h := rfl
theorem q_Sp_back (x0 : Nat) (x1 : Int32) (x2 : Int32) : xmk M_Sp_back [.ref x0, .int x1, .int x2] = 2 := rfl
theorem o_Sp_back : xmo M_Sp_back = 8 := rfl
theorem k_Sp_day (x0 : Nat) (h : xH) : xC M_Sp_day [.ref x0] h = xR none 2 M_Sp_day 0 [some (.ref x0)] [] h := rfl
theorem q_Sp_day (x0 : Nat) : xmk M_Sp_day [.ref x0] = 2 := rfl
theorem o_Sp_day : xmo M_Sp_day = 8 := rfl
theorem k_Sp_undo (x0 : Nat) (h : xH) : xC M_Sp_undo [.ref x0] h = xR none 4 M_Sp_undo 0 [some (.ref x0)] [] h := rfl
theorem q_Sp_undo (x0 : Nat) : xmk M_Sp_undo [.ref x0] = 4 := rfl
theorem o_Sp_undo : xmo M_Sp_undo = 8 := rfl
theorem k_Sp_least (x0 : Nat) (x1 : Int32) (h : xH) : xC M_Sp_least [.ref x0, .int x1] h = xR none 13 M_Sp_least 0 [some (.ref x0), some (.int x1)] [] h := rfl
theorem q_Sp_least (x0 : Nat) (x1 : Int32) : xmk M_Sp_least [.ref x0, .int x1] = 13 := rfl
theorem o_Sp_least : xmo M_Sp_least = 8 := rfl
theorem k_Sp_leastAt (x0 : Nat) (x1 : Int32) (x2 : Int32) (h : xH) : xC M_Sp_leastAt [.ref x0, .int x1, .int x2] h = xR none 18 M_Sp_leastAt 0 [some (.ref x0), some (.int x1), some (.int x2)] [] h := rfl
theorem q_Sp_leastAt (x0 : Nat) (x1 : Int32) (x2 : Int32) : xmk M_Sp_leastAt [.ref x0, .int x1, .int x2] = 18 := rfl
theorem o_Sp_leastAt : xmo M_Sp_leastAt = 8 := rfl
theorem k_Sp_cap (x0 : Nat) (x1 : Int32) (h : xH) : xC M_Sp_cap [.ref x0, .int x1] h = xR none 13 M_Sp_cap 0 [some (.ref x0), some (.int x1), none, none, none, none] [] h := rfl
theorem q_Sp_cap (x0 : Nat) (x1 : Int32) : xmk M_Sp_cap [.ref x0, .int x1] = 13 := rfl
theorem o_Sp_cap : xmo M_Sp_cap = 8 := rfl
theorem k_Sp_see (x0 : Nat) (x1 : Int32) (x2 : Int32) (x3 : Int32) (h : xH) : xC M_Sp_see [.ref x0, .int x1, .int x2, .int x3] h = xR none 1 M_Sp_see 0 [some (.ref x0), some (.int x1), some (.int x2), some (.int x3)] [] h := rfl
theorem q_Sp_see (x0 : Nat) (x1 : Int32) (x2 : Int32) (x3 : Int32) : xmk M_Sp_see [.ref x0, .int x1, .int x2, .int x3] = 1 := rfl
theorem o_Sp_see : xmo M_Sp_see = 8 := rfl
theorem k_Sp_unsee (x0 : Nat) (h : xH) : xC M_Sp_unsee [.ref x0] h = xR none 0 M_Sp_unsee 0 [some (.ref x0), none] [] h := rfl
theorem q_Sp_unsee (x0 : Nat) : xmk M_Sp_unsee [.ref x0] = 0 := rfl
theorem o_Sp_unsee : xmo M_Sp_unsee = 8 := rfl
theorem k_Sp_hands (x0 : Nat) (x1 : Int32) (x2 : Int32) (h : xH) : xC M_Sp_hands [.ref x0, .int x1, .int x2] h = xR none 3 M_Sp_hands 0 [some (.ref x0), some (.int x1), some (.int x2)] [] h := rfl
theorem q_Sp_hands (x0 : Nat) (x1 : Int32) (x2 : Int32) : xmk M_Sp_hands [.ref x0, .int x1, .int x2] = 3 := rfl
theorem o_Sp_hands : xmo M_Sp_hands = 8 := rfl
theorem k_Sp_surely (x0 : Nat) (x1 : Int32) (x2 : Int32) (h : xH) : xC M_Sp_surely [.ref x0, .int x1, .int x2] h = xR none 3 M_Sp_surely 0 [some (.ref x0), some (.int x1), some (.int x2), none, none] [] h := rfl
theorem q_Sp_surely (x0 : Nat) (x1 : Int32) (x2 : Int32) : xmk M_Sp_surely [.ref x0, .int x1, .int x2] = 3 := rfl
theorem o_Sp_surely : xmo M_Sp_surely = 8 := rfl
theorem k_Sp_borrow (x0 : Nat) (x1 : Int32) (x2 : Int32) (x3 : Int32) (x4 : Int32) (x5 : Int32) (h : xH) : xC M_Sp_borrow [.ref x0, .int x1, .int x2, .int x3, .int x4, .int x5] h = xR none 2 M_Sp_borrow 0 [some (.ref x0), some (.int x1), some (.int x2), some (.int x3), some (.int x4), some (.int x5), none, none, none, none, none, none] [] h := rfl
theorem q_Sp_borrow (x0 : Nat) (x1 : Int32) (x2 : Int32) (x3 : Int32) (x4 : Int32) (x5 : Int32) : xmk M_Sp_borrow [.ref x0, .int x1, .int x2, .int x3, .int x4, .int x5] = 2 := rfl
theorem o_Sp_borrow : xmo M_Sp_borrow = 8 := rfl
theorem k_Sp_seed (x0 : Nat) (x1 : Int64) (h : xH) : xC M_Sp_seed [.ref x0, .long x1] h = xR none 0 M_Sp_seed 0 [some (.ref x0), some (.long x1), none, none, none] [] h := rfl
theorem q_Sp_seed (x0 : Nat) (x1 : Int64) : xmk M_Sp_seed [.ref x0, .long x1] = 0 := rfl
theorem o_Sp_seed : xmo M_Sp_seed = 8 := rfl
theorem k_Sp_year (x0 : Nat) (x1 : Int32) (h : xH) : xC M_Sp_year [.ref x0, .int x1] h = xR none 2 M_Sp_year 0 [some (.ref x0), some (.int x1), none, none, none] [] h := rfl
theorem q_Sp_year (x0 : Nat) (x1 : Int32) : xmk M_Sp_year [.ref x0, .int x1] = 2 := rfl
theorem o_Sp_year : xmo M_Sp_year = 8 := rfl
theorem k_Sp_keep (x0 : Nat) (x1 : Int32) (h : xH) : xC M_Sp_keep [.ref x0, .int x1] h = xR none 1 M_Sp_keep 0 [some (.ref x0), some (.int x1)] [] h := rfl
theorem q_Sp_keep (x0 : Nat) (x1 : Int32) : xmk M_Sp_keep [.ref x0, .int x1] = 1 := rfl
theorem o_Sp_keep : xmo M_Sp_keep = 8 := rfl
theorem k_Sp_again (x0 : Nat) (x1 : Int32) (h : xH) : xC M_Sp_again [.ref x0, .int x1] h = xR none 1 M_Sp_again 0 [some (.ref x0), some (.int x1)] [] h := rfl
theorem q_Sp_again (x0 : Nat) (x1 : Int32) : xmk M_Sp_again [.ref x0, .int x1] = 1 := rfl
theorem o_Sp_again : xmo M_Sp_again = 8 := rfl
theorem k_Sp_count (x0 : Nat) (x1 : Int32) (h : xH) : xC M_Sp_count [.ref x0, .int x1] h = xR none 2 M_Sp_count 0 [some (.ref x0), some (.int x1)] [] h := rfl
theorem q_Sp_count (x0 : Nat) (x1 : Int32) : xmk M_Sp_count [.ref x0, .int x1] = 2 := rfl
theorem o_Sp_count : xmo M_Sp_count = 8 := rfl
theorem k_Sp_bitsOf (x0 : Nat) (x1 : Int32) (x2 : Int32) (h : xH) : xC M_Sp_bitsOf [.ref x0, .int x1, .int x2] h = xR none 0 M_Sp_bitsOf 0 [some (.ref x0), some (.int x1), some (.int x2), none, none] [] h := rfl
theorem q_Sp_bitsOf (x0 : Nat) (x1 : Int32) (x2 : Int32) : xmk M_Sp_bitsOf [.ref x0, .int x1, .int x2] = 0 := rfl
theorem o_Sp_bitsOf : xmo M_Sp_bitsOf = 8 := rfl
theorem k_Sp_costOf (x0 : Int32) (x1 : Int32) (x2 : Int32) (h : xH) : xC M_Sp_costOf [.int x0, .int x1, .int x2] h = xR none 0 M_Sp_costOf 0 [some (.int x0), some (.int x1), some (.int x2), none, none] [] h := rfl
theorem q_Sp_costOf (x0 : Int32) (x1 : Int32) (x2 : Int32) : xmk M_Sp_costOf [.int x0, .int x1, .int x2] = 0 := rfl
theorem o_Sp_costOf : xmo M_Sp_costOf = 8 := rfl
theorem k_Sp_greatestDivisor (x0 : Int64) (x2 : Int64) (h : xH) : xC M_Sp_greatestDivisor [.long x0, .long x2] h = xR none 0 M_Sp_greatestDivisor 0 [some (.long x0), none, some (.long x2), none, none, none, none, none, none, none, none] [] h := rfl
theorem q_Sp_greatestDivisor (x0 : Int64) (x2 : Int64) : xmk M_Sp_greatestDivisor [.long x0, .long x2] = 0 := rfl
theorem o_Sp_greatestDivisor : xmo M_Sp_greatestDivisor = 8 := rfl
theorem k_Md_init (x0 : Nat) (h : xH) : xC M_Md_init [.ref x0] h = xR none 0 M_Md_init 0 [some (.ref x0)] [] h := rfl
theorem q_Md_init (x0 : Nat) : xmk M_Md_init [.ref x0] = 0 := rfl
theorem o_Md_init : xmo M_Md_init = 9 := rfl
theorem k_Md_in (x0 : Int64) (x2 : Int64) (x4 : Int64) (h : xH) : xC M_Md_in [.long x0, .long x2, .long x4] h = xR none 0 M_Md_in 0 [some (.long x0), none, some (.long x2), none, some (.long x4), none] [] h := rfl
theorem q_Md_in (x0 : Int64) (x2 : Int64) (x4 : Int64) : xmk M_Md_in [.long x0, .long x2, .long x4] = 0 := rfl
theorem o_Md_in : xmo M_Md_in = 9 := rfl
theorem k_Md_write (x0 : Nat) (x1 : Int32) (x2 : Int64) (h : xH) : xC M_Md_write [.ref x0, .int x1, .long x2] h = xR none 1 M_Md_write 0 [some (.ref x0), some (.int x1), some (.long x2), none, none] [] h := rfl
theorem q_Md_write (x0 : Nat) (x1 : Int32) (x2 : Int64) : xmk M_Md_write [.ref x0, .int x1, .long x2] = 1 := rfl
theorem o_Md_write : xmo M_Md_write = 9 := rfl
theorem k_Md_wipe (x0 : Nat) (h : xH) : xC M_Md_wipe [.ref x0] h = xR none 0 M_Md_wipe 0 [some (.ref x0), none] [] h := rfl
theorem q_Md_wipe (x0 : Nat) : xmk M_Md_wipe [.ref x0] = 0 := rfl
theorem o_Md_wipe : xmo M_Md_wipe = 9 := rfl
theorem k_Md_figure (x0 : Nat) (x1 : Int32) (h : xH) : xC M_Md_figure [.ref x0, .int x1] h = xR none 1 M_Md_figure 0 [some (.ref x0), some (.int x1), none] [] h := rfl
theorem q_Md_figure (x0 : Nat) (x1 : Int32) : xmk M_Md_figure [.ref x0, .int x1] = 1 := rfl
theorem o_Md_figure : xmo M_Md_figure = 9 := rfl
theorem k_Md_strangers (x0 : Nat) (x1 : Int32) (h : xH) : xC M_Md_strangers [.ref x0, .int x1] h = xR none 0 M_Md_strangers 0 [some (.ref x0), some (.int x1)] [] h := rfl
theorem q_Md_strangers (x0 : Nat) (x1 : Int32) : xmk M_Md_strangers [.ref x0, .int x1] = 0 := rfl
theorem o_Md_strangers : xmo M_Md_strangers = 9 := rfl
theorem k_Md_lonely (x0 : Nat) (h : xH) : xC M_Md_lonely [.ref x0] h = xR none 1 M_Md_lonely 0 [some (.ref x0), none, none] [] h := rfl
theorem q_Md_lonely (x0 : Nat) : xmk M_Md_lonely [.ref x0] = 1 := rfl
theorem o_Md_lonely : xmo M_Md_lonely = 9 := rfl
theorem k_Md_freeDays (x0 : Nat) (x1 : Int32) (x2 : Int32) (h : xH) : xC M_Md_freeDays [.ref x0, .int x1, .int x2] h = xR none 0 M_Md_freeDays 0 [some (.ref x0), some (.int x1), some (.int x2), none, none] [] h := rfl
theorem q_Md_freeDays (x0 : Nat) (x1 : Int32) (x2 : Int32) : xmk M_Md_freeDays [.ref x0, .int x1, .int x2] = 0 := rfl
theorem o_Md_freeDays : xmo M_Md_freeDays = 9 := rfl
theorem k_Md_freeSorts (x0 : Nat) (x1 : Int32) (h : xH) : xC M_Md_freeSorts [.ref x0, .int x1] h = xR none 1 M_Md_freeSorts 0 [some (.ref x0), some (.int x1), none, none] [] h := rfl
theorem q_Md_freeSorts (x0 : Nat) (x1 : Int32) : xmk M_Md_freeSorts [.ref x0, .int x1] = 1 := rfl
theorem o_Md_freeSorts : xmo M_Md_freeSorts = 9 := rfl
theorem k_Md_readText (x0 : Nat) (h : xH) : xC M_Md_readText [.ref x0] h = xR none 4 M_Md_readText 0 [some (.ref x0)] [] h := rfl
theorem q_Md_readText (x0 : Nat) : xmk M_Md_readText [.ref x0] = 4 := rfl
theorem o_Md_readText : xmo M_Md_readText = 9 := rfl
theorem k_Md_readPart (x0 : Nat) (x1 : Int32) (h : xH) : xC M_Md_readPart [.ref x0, .int x1] h = xR none 3 M_Md_readPart 0 [some (.ref x0), some (.int x1), none, none] [] h := rfl
theorem q_Md_readPart (x0 : Nat) (x1 : Int32) : xmk M_Md_readPart [.ref x0, .int x1] = 3 := rfl
theorem o_Md_readPart : xmo M_Md_readPart = 9 := rfl
theorem k_Md_readNeed (x0 : Nat) (h : xH) : xC M_Md_readNeed [.ref x0] h = xR none 2 M_Md_readNeed 0 [some (.ref x0), none, none, none, none, none] [] h := rfl
theorem q_Md_readNeed (x0 : Nat) : xmk M_Md_readNeed [.ref x0] = 2 := rfl
theorem o_Md_readNeed : xmo M_Md_readNeed = 9 := rfl
theorem k_Md_fault (x0 : Nat) (h : xH) : xC M_Md_fault [.ref x0] h = xR none 5 M_Md_fault 0 [some (.ref x0)] [] h := rfl
theorem q_Md_fault (x0 : Nat) : xmk M_Md_fault [.ref x0] = 5 := rfl
theorem o_Md_fault : xmo M_Md_fault = 9 := rfl
theorem k_Md_village (x0 : Nat) (h : xH) : xC M_Md_village [.ref x0] h = xR none 5 M_Md_village 0 [some (.ref x0), none] [] h := rfl
theorem q_Md_village (x0 : Nat) : xmk M_Md_village [.ref x0] = 5 := rfl
theorem o_Md_village : xmo M_Md_village = 9 := rfl
theorem k_Md_isPerson (x0 : Nat) (x1 : Int32) (h : xH) : xC M_Md_isPerson [.ref x0, .int x1] h = xR none 1 M_Md_isPerson 0 [some (.ref x0), some (.int x1)] [] h := rfl
theorem q_Md_isPerson (x0 : Nat) (x1 : Int32) : xmk M_Md_isPerson [.ref x0, .int x1] = 1 := rfl
theorem o_Md_isPerson : xmo M_Md_isPerson = 9 := rfl
theorem k_Md_isThing (x0 : Nat) (x1 : Int32) (h : xH) : xC M_Md_isThing [.ref x0, .int x1] h = xR none 1 M_Md_isThing 0 [some (.ref x0), some (.int x1)] [] h := rfl
theorem q_Md_isThing (x0 : Nat) (x1 : Int32) : xmk M_Md_isThing [.ref x0, .int x1] = 1 := rfl
theorem o_Md_isThing : xmo M_Md_isThing = 9 := rfl
theorem k_Md_doKnow (x0 : Nat) (x1 : Int32) (x2 : Int32) (h : xH) : xC M_Md_doKnow [.ref x0, .int x1, .int x2] h = xR none 0 M_Md_doKnow 0 [some (.ref x0), some (.int x1), some (.int x2)] [] h := rfl
theorem q_Md_doKnow (x0 : Nat) (x1 : Int32) (x2 : Int32) : xmk M_Md_doKnow [.ref x0, .int x1, .int x2] = 0 := rfl
theorem o_Md_doKnow : xmo M_Md_doKnow = 9 := rfl
theorem k_Md_price (x0 : Int32) (x1 : Int32) (h : xH) : xC M_Md_price [.int x0, .int x1] h = xR none 0 M_Md_price 0 [some (.int x0), some (.int x1)] [] h := rfl
theorem q_Md_price (x0 : Int32) (x1 : Int32) : xmk M_Md_price [.int x0, .int x1] = 0 := rfl
theorem o_Md_price : xmo M_Md_price = 9 := rfl
theorem k_Md_prices (x0 : Int32) (x1 : Int32) (x2 : Int32) (h : xH) : xC M_Md_prices [.int x0, .int x1, .int x2] h = xR none 1 M_Md_prices 0 [some (.int x0), some (.int x1), some (.int x2), none, none] [] h := rfl
theorem q_Md_prices (x0 : Int32) (x1 : Int32) (x2 : Int32) : xmk M_Md_prices [.int x0, .int x1, .int x2] = 1 := rfl
theorem o_Md_prices : xmo M_Md_prices = 9 := rfl
theorem k_Md_worthOf (x0 : Nat) (x1 : Int32) (h : xH) : xC M_Md_worthOf [.ref x0, .int x1] h = xR none 2 M_Md_worthOf 0 [some (.ref x0), some (.int x1)] [] h := rfl
theorem q_Md_worthOf (x0 : Nat) (x1 : Int32) : xmk M_Md_worthOf [.ref x0, .int x1] = 2 := rfl
theorem o_Md_worthOf : xmo M_Md_worthOf = 9 := rfl
theorem k_Md_dueOf (x0 : Nat) (x1 : Int32) (h : xH) : xC M_Md_dueOf [.ref x0, .int x1] h = xR none 0 M_Md_dueOf 0 [some (.ref x0), some (.int x1), none, none] [] h := rfl
theorem q_Md_dueOf (x0 : Nat) (x1 : Int32) : xmk M_Md_dueOf [.ref x0, .int x1] = 0 := rfl
theorem o_Md_dueOf : xmo M_Md_dueOf = 9 := rfl
theorem k_Md_person (x0 : Nat) (x1 : Int32) (x2 : Int32) (h : xH) : xC M_Md_person [.ref x0, .int x1, .int x2] h = xR none 2 M_Md_person 0 [some (.ref x0), some (.int x1), some (.int x2), none, none, none] [] h := rfl
theorem q_Md_person (x0 : Nat) (x1 : Int32) (x2 : Int32) : xmk M_Md_person [.ref x0, .int x1, .int x2] = 2 := rfl
theorem o_Md_person : xmo M_Md_person = 9 := rfl
theorem k_Md_thing (x0 : Nat) (x1 : Int32) (x2 : Int32) (h : xH) : xC M_Md_thing [.ref x0, .int x1, .int x2] h = xR none 3 M_Md_thing 0 [some (.ref x0), some (.int x1), some (.int x2)] [] h := rfl
theorem q_Md_thing (x0 : Nat) (x1 : Int32) (x2 : Int32) : xmk M_Md_thing [.ref x0, .int x1, .int x2] = 3 := rfl
theorem o_Md_thing : xmo M_Md_thing = 9 := rfl
theorem k_Md_greatest (x0 : Nat) (h : xH) : xC M_Md_greatest [.ref x0] h = xR none 0 M_Md_greatest 0 [some (.ref x0), none, none] [] h := rfl
theorem q_Md_greatest (x0 : Nat) : xmk M_Md_greatest [.ref x0] = 0 := rfl
theorem o_Md_greatest : xmo M_Md_greatest = 9 := rfl
theorem k_Md_law (x0 : Nat) (x1 : Int32) (x2 : Int32) (h : xH) : xC M_Md_law [.ref x0, .int x1, .int x2] h = xR none 1 M_Md_law 0 [some (.ref x0), some (.int x1), some (.int x2), none] [] h := rfl
theorem q_Md_law (x0 : Nat) (x1 : Int32) (x2 : Int32) : xmk M_Md_law [.ref x0, .int x1, .int x2] = 1 := rfl
theorem o_Md_law : xmo M_Md_law = 9 := rfl
theorem k_Md_keepAct (x0 : Nat) (h : xH) : xC M_Md_keepAct [.ref x0] h = xR none 0 M_Md_keepAct 0 [some (.ref x0), none] [] h := rfl
theorem q_Md_keepAct (x0 : Nat) : xmk M_Md_keepAct [.ref x0] = 0 := rfl
theorem o_Md_keepAct : xmo M_Md_keepAct = 9 := rfl
theorem k_Md_lend (x0 : Nat) (x1 : Int32) (x2 : Int32) (h : xH) : xC M_Md_lend [.ref x0, .int x1, .int x2] h = xR none 2 M_Md_lend 0 [some (.ref x0), some (.int x1), some (.int x2), none, none] [] h := rfl
theorem q_Md_lend (x0 : Nat) (x1 : Int32) (x2 : Int32) : xmk M_Md_lend [.ref x0, .int x1, .int x2] = 2 := rfl
theorem o_Md_lend : xmo M_Md_lend = 9 := rfl
theorem k_Md_back (x0 : Nat) (x1 : Int32) (x2 : Int32) (h : xH) : xC M_Md_back [.ref x0, .int x1, .int x2] h = xR none 2 M_Md_back 0 [some (.ref x0), some (.int x1), some (.int x2), none, none] [] h := rfl
theorem q_Md_back (x0 : Nat) (x1 : Int32) (x2 : Int32) : xmk M_Md_back [.ref x0, .int x1, .int x2] = 2 := rfl
theorem o_Md_back : xmo M_Md_back = 9 := rfl
theorem k_Md_day (x0 : Nat) (h : xH) : xC M_Md_day [.ref x0] h = xR none 1 M_Md_day 0 [some (.ref x0), none] [] h := rfl
theorem q_Md_day (x0 : Nat) : xmk M_Md_day [.ref x0] = 1 := rfl
theorem o_Md_day : xmo M_Md_day = 9 := rfl
theorem k_Md_undo (x0 : Nat) (h : xH) : xC M_Md_undo [.ref x0] h = xR none 0 M_Md_undo 0 [some (.ref x0), none] [] h := rfl
theorem q_Md_undo (x0 : Nat) : xmk M_Md_undo [.ref x0] = 0 := rfl
theorem o_Md_undo : xmo M_Md_undo = 9 := rfl
theorem k_Md_layOrder (x0 : Nat) (x1 : Int32) (h : xH) : xC M_Md_layOrder [.ref x0, .int x1] h = xR none 0 M_Md_layOrder 0 [some (.ref x0), some (.int x1), none, none] [] h := rfl
theorem q_Md_layOrder (x0 : Nat) (x1 : Int32) : xmk M_Md_layOrder [.ref x0, .int x1] = 0 := rfl
theorem o_Md_layOrder : xmo M_Md_layOrder = 9 := rfl
theorem k_Md_mayDo (x0 : Nat) (x1 : Int32) (x2 : Int32) (x3 : Int32) (h : xH) : xC M_Md_mayDo [.ref x0, .int x1, .int x2, .int x3] h = xR none 1 M_Md_mayDo 0 [some (.ref x0), some (.int x1), some (.int x2), some (.int x3), none, none, none] [] h := rfl
theorem q_Md_mayDo (x0 : Nat) (x1 : Int32) (x2 : Int32) (x3 : Int32) : xmk M_Md_mayDo [.ref x0, .int x1, .int x2, .int x3] = 1 := rfl
theorem o_Md_mayDo : xmo M_Md_mayDo = 9 := rfl
theorem k_Md_costOf (x0 : Nat) (x1 : Int32) (x2 : Int32) (x3 : Int32) (h : xH) : xC M_Md_costOf [.ref x0, .int x1, .int x2, .int x3] h = xR none 1 M_Md_costOf 0 [some (.ref x0), some (.int x1), some (.int x2), some (.int x3), none, none, none, none] [] h := rfl
theorem q_Md_costOf (x0 : Nat) (x1 : Int32) (x2 : Int32) (x3 : Int32) : xmk M_Md_costOf [.ref x0, .int x1, .int x2, .int x3] = 1 := rfl
theorem o_Md_costOf : xmo M_Md_costOf = 9 := rfl
theorem k_Md_layLeast (x0 : Nat) (x1 : Int32) (x2 : Int32) (h : xH) : xC M_Md_layLeast [.ref x0, .int x1, .int x2] h = xR none 2 M_Md_layLeast 0 [some (.ref x0), some (.int x1), some (.int x2), none, none, none, none] [] h := rfl
theorem q_Md_layLeast (x0 : Nat) (x1 : Int32) (x2 : Int32) : xmk M_Md_layLeast [.ref x0, .int x1, .int x2] = 2 := rfl
theorem o_Md_layLeast : xmo M_Md_layLeast = 9 := rfl
theorem k_Md_least (x0 : Nat) (x1 : Int32) (h : xH) : xC M_Md_least [.ref x0, .int x1] h = xR none 3 M_Md_least 0 [some (.ref x0), some (.int x1)] [] h := rfl
theorem q_Md_least (x0 : Nat) (x1 : Int32) : xmk M_Md_least [.ref x0, .int x1] = 3 := rfl
theorem o_Md_least : xmo M_Md_least = 9 := rfl
theorem k_Md_leastAt (x0 : Nat) (x1 : Int32) (x2 : Int32) (h : xH) : xC M_Md_leastAt [.ref x0, .int x1, .int x2] h = xR none 3 M_Md_leastAt 0 [some (.ref x0), some (.int x1), some (.int x2)] [] h := rfl
theorem q_Md_leastAt (x0 : Nat) (x1 : Int32) (x2 : Int32) : xmk M_Md_leastAt [.ref x0, .int x1, .int x2] = 3 := rfl
theorem o_Md_leastAt : xmo M_Md_leastAt = 9 := rfl
theorem k_Md_cap (x0 : Nat) (x1 : Int32) (h : xH) : xC M_Md_cap [.ref x0, .int x1] h = xR none 3 M_Md_cap 0 [some (.ref x0), some (.int x1), none, none, none, none, none] [] h := rfl
theorem q_Md_cap (x0 : Nat) (x1 : Int32) : xmk M_Md_cap [.ref x0, .int x1] = 3 := rfl
theorem o_Md_cap : xmo M_Md_cap = 9 := rfl
theorem k_Md_see (x0 : Nat) (x1 : Int32) (x2 : Int32) (x3 : Int32) (h : xH) : xC M_Md_see [.ref x0, .int x1, .int x2, .int x3] h = xR none 2 M_Md_see 0 [some (.ref x0), some (.int x1), some (.int x2), some (.int x3)] [] h := rfl
theorem q_Md_see (x0 : Nat) (x1 : Int32) (x2 : Int32) (x3 : Int32) : xmk M_Md_see [.ref x0, .int x1, .int x2, .int x3] = 2 := rfl
theorem o_Md_see : xmo M_Md_see = 9 := rfl
theorem k_Md_unsee (x0 : Nat) (h : xH) : xC M_Md_unsee [.ref x0] h = xR none 0 M_Md_unsee 0 [some (.ref x0), none] [] h := rfl
theorem q_Md_unsee (x0 : Nat) : xmk M_Md_unsee [.ref x0] = 0 := rfl
theorem o_Md_unsee : xmo M_Md_unsee = 9 := rfl
theorem k_Md_fits (x0 : Nat) (x1 : Int32) (x2 : Int32) (h : xH) : xC M_Md_fits [.ref x0, .int x1, .int x2] h = xR none 2 M_Md_fits 0 [some (.ref x0), some (.int x1), some (.int x2), none, none, none] [] h := rfl
theorem q_Md_fits (x0 : Nat) (x1 : Int32) (x2 : Int32) : xmk M_Md_fits [.ref x0, .int x1, .int x2] = 2 := rfl
theorem o_Md_fits : xmo M_Md_fits = 9 := rfl
theorem k_Md_rowsBut (x0 : Nat) (x1 : Int32) (x2 : Int32) (x3 : Int32) (h : xH) : xC M_Md_rowsBut [.ref x0, .int x1, .int x2, .int x3] h = xR none 3 M_Md_rowsBut 0 [some (.ref x0), some (.int x1), some (.int x2), some (.int x3), none, none, none] [] h := rfl
theorem q_Md_rowsBut (x0 : Nat) (x1 : Int32) (x2 : Int32) (x3 : Int32) : xmk M_Md_rowsBut [.ref x0, .int x1, .int x2, .int x3] = 3 := rfl
theorem o_Md_rowsBut : xmo M_Md_rowsBut = 9 := rfl
theorem k_Md_hands (x0 : Nat) (x1 : Int32) (x2 : Int32) (h : xH) : xC M_Md_hands [.ref x0, .int x1, .int x2] h = xR none 4 M_Md_hands 0 [some (.ref x0), some (.int x1), some (.int x2)] [] h := rfl
theorem q_Md_hands (x0 : Nat) (x1 : Int32) (x2 : Int32) : xmk M_Md_hands [.ref x0, .int x1, .int x2] = 4 := rfl
theorem o_Md_hands : xmo M_Md_hands = 9 := rfl
theorem k_Md_surely (x0 : Nat) (x1 : Int32) (x2 : Int32) (h : xH) : xC M_Md_surely [.ref x0, .int x1, .int x2] h = xR none 4 M_Md_surely 0 [some (.ref x0), some (.int x1), some (.int x2), none, none] [] h := rfl
theorem q_Md_surely (x0 : Nat) (x1 : Int32) (x2 : Int32) : xmk M_Md_surely [.ref x0, .int x1, .int x2] = 4 := rfl
theorem o_Md_surely : xmo M_Md_surely = 9 := rfl
theorem k_Md_part (x0 : Int64) (x2 : Int64) (x4 : Int32) (h : xH) : xC M_Md_part [.long x0, .long x2, .int x4] h = xR none 0 M_Md_part 0 [some (.long x0), none, some (.long x2), none, some (.int x4), none, none, none, none, none, none] [] h := rfl
theorem q_Md_part (x0 : Int64) (x2 : Int64) (x4 : Int32) : xmk M_Md_part [.long x0, .long x2, .int x4] = 0 := rfl
theorem o_Md_part : xmo M_Md_part = 9 := rfl
theorem k_Md_borrow (x0 : Nat) (x1 : Int32) (x2 : Int32) (x3 : Int32) (x4 : Int32) (x5 : Int32) (h : xH) : xC M_Md_borrow [.ref x0, .int x1, .int x2, .int x3, .int x4, .int x5] h = xR none 2 M_Md_borrow 0 [some (.ref x0), some (.int x1), some (.int x2), some (.int x3), some (.int x4), some (.int x5), none, none, none, none, none, none, none, none, none, none] [] h := rfl
theorem q_Md_borrow (x0 : Nat) (x1 : Int32) (x2 : Int32) (x3 : Int32) (x4 : Int32) (x5 : Int32) : xmk M_Md_borrow [.ref x0, .int x1, .int x2, .int x3, .int x4, .int x5] = 2 := rfl
theorem o_Md_borrow : xmo M_Md_borrow = 9 := rfl
theorem k_Md_seed (x0 : Nat) (x1 : Int64) (h : xH) : xC M_Md_seed [.ref x0, .long x1] h = xR none 0 M_Md_seed 0 [some (.ref x0), some (.long x1), none, none, none] [] h := rfl
theorem q_Md_seed (x0 : Nat) (x1 : Int64) : xmk M_Md_seed [.ref x0, .long x1] = 0 := rfl
theorem o_Md_seed : xmo M_Md_seed = 9 := rfl
theorem k_Md_year (x0 : Nat) (x1 : Int32) (h : xH) : xC M_Md_year [.ref x0, .int x1] h = xR none 2 M_Md_year 0 [some (.ref x0), some (.int x1), none, none] [] h := rfl
theorem q_Md_year (x0 : Nat) (x1 : Int32) : xmk M_Md_year [.ref x0, .int x1] = 2 := rfl
theorem o_Md_year : xmo M_Md_year = 9 := rfl
theorem k_Md_keep (x0 : Nat) (x1 : Int32) (h : xH) : xC M_Md_keep [.ref x0, .int x1] h = xR none 1 M_Md_keep 0 [some (.ref x0), some (.int x1), none] [] h := rfl
theorem q_Md_keep (x0 : Nat) (x1 : Int32) : xmk M_Md_keep [.ref x0, .int x1] = 1 := rfl
theorem o_Md_keep : xmo M_Md_keep = 9 := rfl
theorem k_Md_again (x0 : Nat) (x1 : Int32) (h : xH) : xC M_Md_again [.ref x0, .int x1] h = xR none 1 M_Md_again 0 [some (.ref x0), some (.int x1), none, none] [] h := rfl
theorem q_Md_again (x0 : Nat) (x1 : Int32) : xmk M_Md_again [.ref x0, .int x1] = 1 := rfl
theorem o_Md_again : xmo M_Md_again = 9 := rfl
theorem k_Md_count (x0 : Nat) (x1 : Int32) (h : xH) : xC M_Md_count [.ref x0, .int x1] h = xR none 3 M_Md_count 0 [some (.ref x0), some (.int x1), none, none, none, none] [] h := rfl
theorem q_Md_count (x0 : Nat) (x1 : Int32) : xmk M_Md_count [.ref x0, .int x1] = 3 := rfl
theorem o_Md_count : xmo M_Md_count = 9 := rfl
theorem k_Int_bitCount (x0 : Int32) (h : xH) : xC M_Int_bitCount [.int x0] h = xR none 0 M_Int_bitCount 0 [some (.int x0)] [] h := rfl
theorem q_Int_bitCount (x0 : Int32) : xmk M_Int_bitCount [.int x0] = 0 := rfl
theorem o_Int_bitCount : xmo M_Int_bitCount = 12 := rfl
